theorem rih_cases (S : ST) (q0 q1 : Bool) : (¬ f_X3_refusalInHand S q0 q1 = 0) ∨ (f_X3_refusalInHand S q0 q1 = 0 ∧ q0 = true ∧ q1 = true ∧ jIn (S.1 0 0) (S.1 0 1)) := by
  cases q0
  · left; rw [rih_f]; decide
  cases q1
  · left; rw [rih_tf]; decide
  by_cases hj : jIn (S.1 0 0) (S.1 0 1)
  · right; exact ⟨rih_y hj, rfl, rfl, hj⟩
  · left; rw [rih_n hj]; decide
/-- the reference's refusals, one by one, come to the class's -/
theorem m_ref2 {S M : ST} (R : Rel S M) (q0 q1 : Bool) {X : Option (Int64 × ST)} (k : Nat) :
    (if (b2i q0) = 0 then (f_X4_lowest M (-1) (k + 200)).bind fun v => some (v.1, v.2) else if (b2i q1) = 0 then (f_X4_lowest M (-2) (k + 200)).bind fun v => some (v.1, v.2) else if M.1 0 0 = 0 then (f_X4_lowest M (-3) (k + 200)).bind fun v => some (v.1, v.2) else X) =
    if f_X3_refusalInHand S q0 q1 = 0 then X else (f_X4_lowest M (f_X3_refusalInHand S q0 q1) (k + 200)).bind fun v => some (v.1, v.2) := by
  cases q0
  · rw [rih_f, if_pos (by decide), if_neg (by decide)]
  cases q1
  · rw [rih_tf, if_neg (by decide), if_pos (by decide), if_neg (by decide)]
  by_cases hj : jIn (S.1 0 0) (S.1 0 1)
  · rw [rih_y hj, if_neg (by decide), if_neg (by decide), if_neg (R.in0.mp hj), if_pos rfl]
  · rw [rih_n hj, if_neg (by decide), if_neg (by decide), if_pos (Classical.not_not.mp (fun z => hj (R.in0.mpr z))), if_neg (by decide)]
theorem m_ref1 {S M : ST} (R : Rel S M) (q0 : Bool) {X : Option (Int64 × ST)} (k : Nat) :
    (if (b2i q0) = 0 then (f_X4_lowest M (-1) (k + 200)).bind fun v => some (v.1, v.2) else if M.1 0 0 = 0 then (f_X4_lowest M (-3) (k + 200)).bind fun v => some (v.1, v.2) else X) =
    if f_X3_refusalInHand S q0 true = 0 then X else (f_X4_lowest M (f_X3_refusalInHand S q0 true) (k + 200)).bind fun v => some (v.1, v.2) := by
  cases q0
  · rw [rih_f, if_pos (by decide), if_neg (by decide)]
  by_cases hj : jIn (S.1 0 0) (S.1 0 1)
  · rw [rih_y hj, if_neg (by decide), if_neg (R.in0.mp hj), if_pos rfl]
  · rw [rih_n hj, if_neg (by decide), if_pos (Classical.not_not.mp (fun z => hj (R.in0.mpr z))), if_neg (by decide)]
theorem m_ref1' {S M : ST} (R : Rel S M) (q1 : Bool) {X : Option (Int64 × ST)} (k : Nat) :
    (if (b2i q1) = 0 then (f_X4_lowest M (-2) (k + 200)).bind fun v => some (v.1, v.2) else if M.1 0 0 = 0 then (f_X4_lowest M (-3) (k + 200)).bind fun v => some (v.1, v.2) else X) =
    if f_X3_refusalInHand S true q1 = 0 then X else (f_X4_lowest M (f_X3_refusalInHand S true q1) (k + 200)).bind fun v => some (v.1, v.2) := by
  cases q1
  · rw [rih_tf, if_pos (by decide), if_neg (by decide)]
  by_cases hj : jIn (S.1 0 0) (S.1 0 1)
  · rw [rih_y hj, if_neg (by decide), if_neg (R.in0.mp hj), if_pos rfl]
  · rw [rih_n hj, if_neg (by decide), if_pos (Classical.not_not.mp (fun z => hj (R.in0.mpr z))), if_neg (by decide)]
/-- a long answer: refused alike, or from the same thoughts -/
theorem o_long {S M : ST} (R : Rel S M) (k : Nat) (q0 q1 : Bool) {X Y : Option (Int64 × ST)} (h : q0 = true → q1 = true → jIn (S.1 0 0) (S.1 0 1) → O3 X Y) :
    O3 (if f_X3_refusalInHand S q0 q1 = 0 then X else some ((f_X3_refuseLong S (f_X3_refusalInHand S q0 q1)).1, (f_X3_refuseLong S (f_X3_refusalInHand S q0 q1)).2)) (if f_X3_refusalInHand S q0 q1 = 0 then Y else (f_X4_lowest M (f_X3_refusalInHand S q0 q1) (k + 200)).bind fun v => some (v.1, v.2)) := by
  rcases rih_cases S q0 q1 with hz | ⟨hz, h0, h1, hj⟩
  · rw [if_neg hz, if_neg hz]
    exact ref_long R (rih_R hz) k
  · rw [if_pos hz, if_pos hz]
    exact h h0 h1 hj
theorem o_int {S M : ST} (R : Rel S M) (k : Nat) (q0 q1 : Bool) {X Y : Option (Int32 × ST)} (h : q0 = true → q1 = true → jIn (S.1 0 0) (S.1 0 1) → O2 X Y) :
    O2 (if f_X3_refusalInHand S q0 q1 = 0 then X else some ((f_X3_refuse S (f_X3_refusalInHand S q0 q1)).1, (f_X3_refuse S (f_X3_refusalInHand S q0 q1)).2)) (if f_X3_refusalInHand S q0 q1 = 0 then Y else (f_X4_no M (f_X3_refusalInHand S q0 q1) (k + 200)).bind fun v => some (v.1, v.2)) := by
  rcases rih_cases S q0 q1 with hz | ⟨hz, h0, h1, hj⟩
  · rw [if_neg hz, if_neg hz]
    exact ref_no R (rih_R hz) k
  · rw [if_pos hz, if_pos hz]
    exact h h0 h1 hj
theorem s_ix {p : Int32} (h : 0 ≤ p ∧ p < 5) : ∃ j : Nat, j < 5 ∧ p = Int32.ofNat j := p_ix (n := 5) (by decide) h.1 h.2
theorem o_thought {S M : ST} (R : Rel S M) (k : Nat) (p0 : Int32) : O3 (f_X3_thought S p0 (k + 200)) (f_X4_thought M p0 (k + 200)) := by
  unfold f_X3_thought f_X4_thought
  rw [m_isStage, m_ref1 R]
  refine o_long R k _ _ fun h0 _ hj => ?_
  obtain ⟨S2, M2, h1, h2, T⟩ := think_both R hj k
  have h5 := one_iff.mp h0
  rw [h1, h2, p_bs, p_bs, if_neg (p_nb (n := 5) (by decide) h5.1 h5.2)]
  obtain ⟨j, hj5, rfl⟩ := s_ix h5
  rw [c_sumOf k _ j hj5, p_bs, p_tn (by omega)]
  exact ⟨_, S2, M2, rfl, by rw [T.2.2.2.1 j hj5, T.2.2.2.2.1 j hj5], T.1⟩
theorem o_likely {S M : ST} (R : Rel S M) (k : Nat) (p0 p1 : Int32) : O3 (f_X3_likely S p0 p1 (k + 200)) (f_X4_likely M p0 p1 (k + 200)) := by
  unfold f_X3_likely f_X4_likely
  rw [m_isStage, m_isIn1, m_ref2 R]
  refine o_long R k _ _ fun h0 _ hj => ?_
  obtain ⟨S2, M2, h1, h2, T⟩ := think_both R hj k
  have h5 := one_iff.mp h0
  rw [h1, h2, p_bs, p_bs, if_neg (p_nb (n := 5) (by decide) h5.1 h5.2)]
  obtain ⟨j, hj5, rfl⟩ := s_ix h5
  rw [c_sumOf k _ j hj5, p_bs, c_sumAll, p_bs, c_frac, p_bs, p_tn (by omega), m_all0, p_bs, m_frac, p_bs]
  exact ⟨_, S2, M2, rfl, by rw [T.2.2.2.1 j hj5, T.2.2.2.2.1 j hj5, T.2.2.2.1.a, T.2.2.2.2.1.a], T.1⟩
theorem o_good {S M : ST} (R : Rel S M) (k : Nat) (p0 : Int32) : O3 (f_X3_good S p0 (k + 200)) (f_X4_good M p0 (k + 200)) := by
  unfold f_X3_good f_X4_good
  rw [m_isIn1, m_ref1' R]
  refine o_long R k _ _ fun h0 _ hj => ?_
  obtain ⟨S2, M2, h1, h2, T⟩ := think_both R hj k
  rw [h1, h2, p_bs, p_bs, c_sum01, p_bs, c_sumAll, p_bs, c_frac, p_bs, m_all0, p_bs, m_frac, p_bs]
  refine ⟨_, S2, M2, rfl, ?_, T.1⟩
  rw [T.2.2.2.1 0 (by decide), T.2.2.2.1 1 (by decide), T.2.2.2.1.a, T.2.2.2.2.1.a, ← T.2.2.2.2.1 0 (by decide), ← T.2.2.2.2.1 1 (by decide)]
  rfl
theorem o_mean {S M : ST} (R : Rel S M) (k : Nat) (p0 p1 p2 : Int32) : O3 (f_X3_mean S p0 p1 p2 (k + 200)) (f_X4_mean M p0 p1 p2 (k + 200)) := by
  unfold f_X3_mean f_X4_mean
  rw [m_isIn4, m_isIn1, m_isWhom]
  cases h0 : f_X3_isOneOf p0 5
  · simp only [b2i_f0, if_true, rih_f]
    rw [if_neg (by decide)]
    exact ref_long R (Or.inl rfl) k
  cases hw : f_X3_isOneOf p1 3
  · simp only [b2i_f0, b2i_t0, if_true, if_false, rih_f]
    rw [if_neg (by decide)]
    exact ref_long R (Or.inl rfl) k
  simp only [b2i_t0, if_false]
  rw [m_ref1' R]
  refine o_long R k _ _ fun _ _ hj => ?_
  obtain ⟨S2, M2, h1, h2, T⟩ := think_both R hj k
  have HM2 := T.2.2.2.2.2.2.1
  rw [h1, h2, p_bs, p_bs, c_nsum, p_bs, c_sumAll, p_bs, c_frac, p_bs, m_net0 k M2 (one_iff.mp h0) (one_iff.mp hw), p_bs, if_neg HM2.nb, m_all0, p_bs, m_frac, p_bs]
  refine ⟨_, S2, M2, rfl, ?_, T.1⟩
  rw [T.2.2.2.2.2.2.2.1, T.2.2.2.2.2.2.2.2, T.2.2.2.1.n, T.2.2.2.2.1.n, T.2.2.2.1.a, T.2.2.2.2.1.a, HM2.2.2.2.1, T.2.2.2.2.2.1.2.2.1, Int64.mul_comm]
/-! sure -/
def ht (F : Nat → Int64) (u : Int32) (i : Nat) : Int64 := if f_X3_harmOf u (Int32.ofNat i) ≤ 0 then 0 else F i
def hsum (F : Nat → Int64) (u : Int32) : Int64 := ht F u 0 + ht F u 1 + ht F u 2 + ht F u 3 + ht F u 4
theorem E5.h {F G : Nat → Int64} (h : E5 F G) (u : Int32) : hsum F u = hsum G u := by
  unfold hsum ht
  rw [h 0 (by decide), h 1 (by decide), h 2 (by decide), h 3 (by decide), h 4 (by decide)]
theorem c_h_step (k n : Nat) (F : Nat → Int64) (u : Int32) (x : Int64) (i : Nat) (hi : i < 5) : f_X3_harmSum_L5 u F (k + 200) (n + 1) x (Int32.ofNat i) = f_X3_harmSum_L5 u F (k + 200) n (x + ht F u i) (Int32.ofNat (i + 1)) := by
  rw [f_X3_harmSum_L5, if_neg (fun z => by have := (p_le (a := 5) (by omega) (by omega)).mp z; omega), Int32.ofNat_add, ht]
  split
  · rw [Int64.add_zero]; rfl
  · rw [c_sumOf k F i hi, p_bs]; rfl
theorem c_hsum (k : Nat) (F : Nat → Int64) (u : Int32) : f_X3_harmSum F u (k + 200) = some (hsum F u) := by
  unfold f_X3_harmSum
  have h : f_X3_harmSum_L5 u F (k + 200) (k + 200) 0 0 = some (hsum F u, 5) := by
    refine (c_h_step k (k + 199) F u 0 0 (by decide)).trans ((c_h_step k (k + 198) F u _ 1 (by decide)).trans ((c_h_step k (k + 197) F u _ 2 (by decide)).trans ((c_h_step k (k + 196) F u _ 3 (by decide)).trans ((c_h_step k (k + 195) F u _ 4 (by decide)).trans ?_))))
    rw [f_X3_harmSum_L5, if_pos (by decide), Int64.zero_add]
    rfl
  rw [h, p_bs]
theorem m_h_step (k n : Nat) (M : ST) (u : Int32) (hu : 0 ≤ u ∧ u < 5) (x : Int64) (i : Nat) (hi : i < 5) : f_X4_harmParts_L5 u M (k + 200) (n + 1) x (Int32.ofNat i) = f_X4_harmParts_L5 u M (k + 200) n (x + ht (M.2 0) u i) (Int32.ofNat (i + 1)) := by
  have h0 : (0 : Int32) ≤ Int32.ofNat i := by rw [show (0 : Int32) = Int32.ofNat 0 from rfl, p_le (by omega) (by omega)]; omega
  have h5 : Int32.ofNat i < 5 := (p_lt (b := 5) (by omega) (by omega)).mpr hi
  rw [f_X4_harmParts_L5, if_neg (fun z => by have := (p_le (a := 5) (by omega) (by omega)).mp z; omega), Int32.ofNat_add, ht, harm_eq hu ⟨h0, h5⟩, if_neg (p_nb (n := 5) (by decide) h0 h5), p_tn (by omega)]
  split <;> rfl
theorem m_hsum (k : Nat) (M : ST) (u : Int32) (hu : 0 ≤ u ∧ u < 5) : f_X4_harmParts M u (k + 200) = some (hsum (M.2 0) u) := by
  unfold f_X4_harmParts
  have h : f_X4_harmParts_L5 u M (k + 200) (k + 200) 0 0 = some (hsum (M.2 0) u, 5) := by
    refine (m_h_step k (k + 199) M u hu 0 0 (by decide)).trans ((m_h_step k (k + 198) M u hu _ 1 (by decide)).trans ((m_h_step k (k + 197) M u hu _ 2 (by decide)).trans ((m_h_step k (k + 196) M u hu _ 3 (by decide)).trans ((m_h_step k (k + 195) M u hu _ 4 (by decide)).trans ?_))))
    rw [f_X4_harmParts_L5, if_pos (by decide), Int64.zero_add]
    rfl
  rw [h, p_bs]
def sb (F : Nat → Int64) (x u : Int32) : Int32 := if hsum F u = 0 then x ||| ((1 : Int32) <<< (u &&& 31)) else x
def sbb (F : Nat → Int64) : Int32 := sb F (sb F (sb F (sb F (sb F 0 0) 1) 2) 3) 4
theorem c_s_step (k n : Nat) (S : ST) (x u u2 : Int32) (h : ¬ (5 : Int32) ≤ u) (hu : u + 1 = u2) : f_X3_sure_L30 S (k + 200) (n + 1) x u = f_X3_sure_L30 S (k + 200) n (sb (S.2 0) x u) u2 := by
  rw [f_X3_sure_L30, if_neg h, c_hsum, p_bs, hu, sb]
  simp only [lg_cmp_eq]
  split <;> rfl
theorem m_s_step (k n : Nat) (M : ST) (x u u2 : Int32) (h : 0 ≤ u ∧ u < 5) (hu : u + 1 = u2) : f_X4_sure_L25 M (k + 200) (n + 1) x u = f_X4_sure_L25 M (k + 200) n (sb (M.2 0) x u) u2 := by
  rw [f_X4_sure_L25, if_neg (by grind), m_hsum k M u h, p_bs, hu, sb]
  simp only [lg_cmp_eq, Int32.or_zero]
  split <;> rfl
theorem c_sure (k : Nat) (S : ST) : f_X3_sure_L30 S (k + 200) (k + 200) 0 0 = some (sbb (S.2 0), 5) := by
  refine (c_s_step k (k + 199) S 0 0 1 (by decide) (by decide)).trans ((c_s_step k (k + 198) S _ 1 2 (by decide) (by decide)).trans ((c_s_step k (k + 197) S _ 2 3 (by decide) (by decide)).trans ((c_s_step k (k + 196) S _ 3 4 (by decide) (by decide)).trans ((c_s_step k (k + 195) S _ 4 5 (by decide) (by decide)).trans ?_))))
  rw [f_X3_sure_L30, if_pos (by decide)]
  rfl
theorem m_sure (k : Nat) (M : ST) : f_X4_sure_L25 M (k + 200) (k + 200) 0 0 = some (sbb (M.2 0), 5) := by
  refine (m_s_step k (k + 199) M 0 0 1 (by decide) (by decide)).trans ((m_s_step k (k + 198) M _ 1 2 (by decide) (by decide)).trans ((m_s_step k (k + 197) M _ 2 3 (by decide) (by decide)).trans ((m_s_step k (k + 196) M _ 3 4 (by decide) (by decide)).trans ((m_s_step k (k + 195) M _ 4 5 (by decide) (by decide)).trans ?_))))
  rw [f_X4_sure_L25, if_pos (by decide)]
  rfl
theorem o_sure {S M : ST} (R : Rel S M) (k : Nat) (w : Int32) : O2 (f_X3_sure S w (k + 200)) (f_X4_sure M w (k + 200)) := by
  unfold f_X3_sure f_X4_sure
  rw [m_notBest R]
  refine o_int R k _ _ fun h0 _ hj => ?_
  obtain ⟨S2, M2, h1, h2, T⟩ := think_both R hj k
  rw [h1, h2, p_bs, p_bs, c_sure, p_bs, m_sure, p_bs]
  refine ⟨_, S2, M2, rfl, ?_, T.1⟩
  unfold sbb sb
  simp only [T.2.2.2.1.h, T.2.2.2.2.1.h]
theorem o_says {S M : ST} (R : Rel S M) (k : Nat) (p0 p1 : Int32) : O2 (f_X3_says S p0 p1 (k + 200)) (f_X4_says M p0 p1 (k + 200)) := by
  unfold f_X3_says f_X4_says
  rw [m_isTest, m_isStage]
  cases h0 : f_X3_isOneOf p0 4
  · simp only [b2i_f0, if_true, rih_f]
    rw [if_neg (by decide)]
    exact ref_no R (Or.inl rfl) k
  cases hw : f_X3_isOneOf p1 5
  · simp only [b2i_f0, b2i_t0, if_true, if_false, rih_f]
    rw [if_neg (by decide)]
    exact ref_no R (Or.inl rfl) k
  simp only [b2i_t0, if_false]
  by_cases hj : jIn (S.1 0 0) (S.1 0 1)
  · rw [rih_y hj, if_pos rfl, if_neg (R.in0.mp hj)]
    obtain ⟨S2, M2, h1, h2, T⟩ := think_both R hj k
    obtain ⟨A, B⟩ := M
    rw [h1, p_bs, m_saysOff (R.hm hj) k B (one_iff.mp h0) (one_iff.mp hw), p_bs]
    refine ⟨_, S2, (A, B), rfl, ?_, R.frame T.2.1 (fun _ _ => rfl)⟩
    rw [T.2.2.2.2.2.1.1]
  · rw [rih_n hj, if_neg (by decide), if_pos (Classical.not_not.mp (fun z => hj (R.in0.mpr z)))]
    exact ref_no R (Or.inr (Or.inr (Or.inl rfl))) k
