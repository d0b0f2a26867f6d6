/-! count, people -/
def ctail (S : ST) (p0 : Int32) (N_ : Nat) : Option Int32 :=
  if p0 = 0 then some (S.1 0 0) else if p0 = 1 then some (S.1 0 1) else if p0 = 2 then some (S.1 0 2) else if p0 = 3 then some (S.1 0 4) else if p0 = 4 then some (S.1 0 3) else
  if p0 = 5 then (f_X1_allCups (kR S.1 0) N_).bind fun v => some v else if p0 = 6 then (f_X1_allPoints (kR S.1 0) N_).bind fun v => some v else if p0 = 7 then some (S.1 30 1) else if p0 = 8 then some (S.1 30 2) else some (-9)
theorem c_count (S : ST) (p0 : Int32) (N_ : Nat) : f_X3_count S p0 N_ = if 11 ≤ p0 ∧ p0 ≤ 16 then some (f_X3_at (S.1 33) 7 (p0 - 10)) else if 20 ≤ p0 ∧ p0 ≤ 23 then some (f_X1_costOf (S.1 3) (p0 - 20)) else ctail S p0 N_ := by
  unfold f_X3_count
  by_cases h1 : p0 < 11
  · rw [if_pos h1, if_pos (show p0 < 20 by grind), if_neg (show ¬ (11 ≤ p0 ∧ p0 ≤ 16) by grind), if_neg (show ¬ (20 ≤ p0 ∧ p0 ≤ 23) by grind)]
    rfl
  · rw [if_neg h1]
    by_cases h2 : 16 < p0
    · rw [if_pos h2, if_neg (show ¬ (11 ≤ p0 ∧ p0 ≤ 16) by grind)]
      by_cases h3 : p0 < 20
      · rw [if_pos h3, if_neg (show ¬ (20 ≤ p0 ∧ p0 ≤ 23) by grind)]
        rfl
      · rw [if_neg h3]
        by_cases h4 : 23 < p0
        · rw [if_pos h4, if_neg (show ¬ (20 ≤ p0 ∧ p0 ≤ 23) by grind)]
          rfl
        · rw [if_neg h4, if_pos (show 20 ≤ p0 ∧ p0 ≤ 23 by grind)]
    · rw [if_neg h2, if_pos (show 11 ≤ p0 ∧ p0 ≤ 16 by grind)]
theorem m_isIn (p a b : Int32) : (b2i (f_X4_isIn p a b) = 0) ↔ ¬ (a ≤ p ∧ p ≤ b) := by
  unfold f_X4_isIn
  split
  · simp only [b2i_f0, true_iff]; grind
  · split
    · simp only [b2i_f0, true_iff]; grind
    · simp only [b2i_t0, false_iff, Classical.not_not]; grind
theorem o_count {S M : ST} (R : Rel S M) (k : Nat) (p0 : Int32) : ∃ r, f_X3_count S p0 (k + 200) = some r ∧ f_X4_count M p0 (k + 200) = some r := by
  rw [c_count]
  unfold f_X4_count
  by_cases h1 : 11 ≤ p0 ∧ p0 ≤ 16
  · have h2 : 0 ≤ p0 - 10 ∧ p0 - 10 < 7 := by constructor <;> grind
    rw [if_pos h1, if_neg (fun z => (m_isIn p0 11 16).mp z h1), if_neg (p_nb (n := 7) (by decide) h2.1 h2.2)]
    obtain ⟨j, hj, e⟩ := p_ix (n := 7) (by decide) h2.1 h2.2
    rw [e, p_at (by decide) hj, p_tn (by omega)]
    exact ⟨_, rfl, by rw [R.2.2.2.2.2 j hj]⟩
  · rw [if_neg h1, if_pos ((m_isIn p0 11 16).mpr h1)]
    by_cases h3 : 20 ≤ p0 ∧ p0 ≤ 23
    · have h2 : 0 ≤ p0 - 20 ∧ p0 - 20 < 4 := by constructor <;> grind
      rw [if_pos h3, if_neg (fun z => (m_isIn p0 20 23).mp z h3), if_neg (p_nb (n := 4) (by decide) h2.1 h2.2)]
      obtain ⟨j, hj, e⟩ := p_ix (n := 4) (by decide) h2.1 h2.2
      unfold f_X1_costOf
      rw [e, p_at (by decide) hj, p_tn (by omega)]
      exact ⟨_, rfl, by rw [(R.k.2.2.1 j hj).1]; rfl⟩
    · rw [if_neg h3, if_pos ((m_isIn p0 20 23).mpr h3)]
      unfold ctail
      obtain ⟨v, a1, a2⟩ := kr_cups R.kr k M.2
      obtain ⟨v2, b1, b2⟩ := kr_points R.kr k M.2
      have a2' : f_X4_allCups M (k + 200) = some v := a2
      have b2' : f_X4_allPoints M (k + 200) = some v2 := b2
      rw [kR0, a1, b1, a2', b2', p_bs, p_bs, show M.1 0 0 = S.1 0 0 from R.k.1.1.symm, show M.1 0 1 = S.1 0 1 from R.k.1.2.1.symm, show M.1 0 2 = S.1 0 2 from R.k.1.2.2.1.symm, show M.1 0 3 = S.1 0 4 from R.k.1.2.2.2.2.symm, show M.1 0 4 = S.1 0 3 from R.k.1.2.2.2.1.symm, ← R.2.2.2.1.1, ← R.2.2.2.2.1.1]
      have : ∀ o : Option Int32, (∃ r, o = some r) → ∃ r, o = some r ∧ o = some r := fun o ⟨r, h⟩ => ⟨r, h, h⟩
      apply this
      repeat' split
      all_goals exact ⟨_, rfl⟩
/-! said, ask -/
def pt2 (kd P : Int32) (s : Int32) : Int32 := if P = 1 then 0 else if P = 2 then 10 else if P = 3 then f_X3_heldTenths (f_X0_offTenths kd 0 s - 3) else if P = 4 then f_X3_heldTenths (f_X0_offTenths kd 0 s + 3) else f_X0_offTenths kd 0 s
theorem c_pt (A : Nat → Nat → Int32) (B : Nat → Nat → Int64) (P s : Int32) : f_X3_personTenths (A, B) P s = pt2 (A 34 0) P s := rfl
theorem m_held (x : Int32) : f_X4_held x = f_X3_heldTenths x := by
  unfold f_X4_held f_X3_heldTenths
  by_cases h1 : 0 ≤ x
  · by_cases h2 : x ≤ 10
    · rw [if_pos h1, if_pos h2]
      by_cases h3 : x < 10
      · rw [if_pos h3]
        split <;> grind
      · rw [if_neg h3]
        have : x = 10 := by grind
        rw [this]
        rfl
    · rw [if_pos h1, if_neg h2, if_neg (show ¬ x < 10 by grind)]
      rfl
  · rw [if_neg h1, if_pos (show x < 10 by grind), if_neg (show ¬ 0 < x by grind)]
theorem m_pt {A : Nat → Nat → Int32} {kd pt cp : Int32} (h : HM A kd pt cp) (k : Nat) (B : Nat → Nat → Int64) {p : Nat} (hp : p < 4) {s : Int32} (hs : 0 ≤ s ∧ s < 5) : f_X4_personOff (A, B) (Int32.ofNat p) s (k + 200) = some (pt2 kd (A 9 p) s) := by
  unfold f_X4_personOff pt2
  rw [m_saysOff h k B (by decide) hs, p_bs, p_tn (by omega), if_neg (p_nbi (i := p) (n := 4) hp (by decide)), m_held, m_held]
  dsimp only
  split <;> (try rfl)
  split <;> (try rfl)
  split <;> (try rfl)
  split <;> rfl
theorem pt_in {kd P s : Int32} (h1 : 0 ≤ kd ∧ kd < 6) (h3 : 0 ≤ s ∧ s < 5) : 0 ≤ pt2 kd P s ∧ pt2 kd P s ≤ 10 := by
  have ht : ∀ x : Int32, 0 ≤ f_X3_heldTenths x ∧ f_X3_heldTenths x ≤ 10 := fun x => by
    unfold f_X3_heldTenths
    constructor <;> split <;> split <;> grind
  unfold pt2
  split
  · decide
  split
  · decide
  split
  · exact ht _
  split
  · exact ht _
  · exact off_in h1 (by decide) h3
/-- thoughts after n people were heard; the set tells who says off -/
def hrd (kd : Int32) (P : Nat → Int32) (set : Int32) (F : Nat → Int64) : Nat → Nat → Int64
  | 0 => F
  | n + 1 => fun s => hrd kd P set F n s * Int32.toInt64 (if ((set >>> (Int32.ofNat n &&& 31)) &&& 1) = 1 then pt2 kd (P n) (Int32.ofNat s) else 10 - pt2 kd (P n) (Int32.ofNat s))
def hr1 (kd P o : Int32) (F : Nat → Int64) : Nat → Int64 := fun s => F s * Int32.toInt64 (if o = 1 then pt2 kd P (Int32.ofNat s) else 10 - pt2 kd P (Int32.ofNat s))
theorem c_hear (k : Nat) (A : Nat → Nat → Int32) (B : Nat → Nat → Int64) (P o : Int32) : ∃ B2, f_X3_hear (A, B) P o (k + 200) = some (A, B2) ∧ E5 (B2 0) (hr1 (A 34 0) P o (B 0)) := by
  have e : ∀ (B : Nat → Nat → Int64) (r q : Nat → Int64), kLS (kLS B 0 r) 0 q = kLS B 0 q := fun B r q => by
    funext b
    unfold kLS
    split <;> rfl
  have e2 : ∀ (B : Nat → Nat → Int64) (r : Nat → Int64), kLS B 0 r 0 = r := fun B r => rfl
  have t : ∀ (F : Nat → Int64) (s : Nat) (x : Int32), s < 5 → f_X2_times F (Int32.ofNat s) x = vp_updL F s (F s * Int32.toInt64 x) := fun F s x hs => by
    unfold f_X2_times
    rw [show f_X3_isOneOf (Int32.ofNat s) 5 = true from one_iff.mpr ⟨p_0le s (by omega), (p_lt (b := 5) (by omega) (by omega)).mpr hs⟩, if_neg (by decide), p_tn (by omega)]
  have t0 := fun F x => t F 0 x (by decide)
  have t1 := fun F x => t F 1 x (by decide)
  have t2 := fun F x => t F 2 x (by decide)
  have t3 := fun F x => t F 3 x (by decide)
  have t4 := fun F x => t F 4 x (by decide)
  simp only [show Int32.ofNat 0 = 0 from rfl, show Int32.ofNat 1 = 1 from rfl, show Int32.ofNat 2 = 2 from rfl, show Int32.ofNat 3 = 3 from rfl, show Int32.ofNat 4 = 4 from rfl] at t0 t1 t2 t3 t4
  refine ⟨kLS B 0 (v5 (B 0) (hr1 (A 34 0) P o (B 0))), ?_, E5.v⟩
  rw [← v5_up]
  unfold f_X3_hear hr1
  by_cases ho : o = 1
  · simp [f_X3_hear_L2, ho, e, e2, t0, t1, t2, t3, t4, c_pt, vp_updL]
  · simp [f_X3_hear_L2, ho, e, e2, t0, t1, t2, t3, t4, c_pt, vp_updL]
