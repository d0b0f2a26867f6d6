/-! rules of tasters -/
def fhv (st : Int32) : Int32 := if f_X3_harmOf 0 st = 0 then 0 else if f_X3_harmOf 1 st = 0 then 1 else if f_X3_harmOf 2 st = 0 then 2 else 3
theorem c_fh (k : Nat) (st : Int32) : f_X3_firstHarmless st (k + 200) = some (fhv st) := by
  unfold f_X3_firstHarmless fhv
  by_cases h0 : f_X3_harmOf 0 st = 0
  · simp [f_X3_firstHarmless_L2, h0]
  · by_cases h1 : f_X3_harmOf 1 st = 0
    · simp [f_X3_firstHarmless_L2, h0, h1]
    · by_cases h2 : f_X3_harmOf 2 st = 0
      · simp [f_X3_firstHarmless_L2, h0, h1, h2]
      · simp [f_X3_firstHarmless_L2, h0, h1, h2]
def ub2 (kd fg pt pr rule w : Int32) : Int32 := if rule = 0 then (if pt ≤ 10 * fg then 0 else 4) else if rule = 1 then 0 else if rule = 2 then (if f_X0_trueStage pt < 3 then 0 else 4) else if rule = 3 then fhv (f_X0_trueStage pt) else buse pr (wv kd pt) w
theorem ub2_in (kd fg pt pr rule w : Int32) : 0 ≤ ub2 kd fg pt pr rule w ∧ ub2 kd fg pt pr rule w < 5 := by
  unfold ub2 fhv
  split
  · split <;> decide
  split
  · decide
  split
  · split <;> decide
  split
  · repeat' split
    all_goals decide
  · exact buse_in _ _ _
theorem c_ubr (k : Nat) (A : Nat → Nat → Int32) (B : Nat → Nat → Int64) (ix : Nat) (rule w : Int32) : ∃ B2, f_X3_useByRule (A, B) ix rule w (k + 200) = some (ub2 (A 5 ix) (A 6 ix) (A 8 ix) (A 0 3) rule w, (A, B2)) := by
  unfold f_X3_useByRule ub2
  dsimp only
  rw [c_fh, p_bs, c_weigh, p_bs, c_buse, p_bs, v5_bu]
  split
  · split <;> exact ⟨_, rfl⟩
  split
  · exact ⟨_, rfl⟩
  split
  · split <;> exact ⟨_, rfl⟩
  split
  · exact ⟨_, rfl⟩
  · exact ⟨_, rfl⟩
theorem m_truly (k : Nat) (A : Nat → Nat → Int32) (B : Nat → Nat → Int64) {j : Nat} (hj : j < 5) : f_X4_truly (A, B) (Int32.ofNat j) (k + 200) = some (f_X0_trueStage (A 5 j)) := by
  unfold f_X4_truly
  rw [p_tn (by omega), if_neg (p_nbi hj (by decide)), m_stage]
theorem m_ubr (k : Nat) (A : Nat → Nat → Int32) (B : Nat → Nat → Int64) {j : Nat} (hj : j < 5) (hp : 0 ≤ A 5 j ∧ A 5 j ≤ 240) (rule : Int32) {w : Int32} (hw : 0 ≤ w ∧ w < 3) : ∃ B2, f_X4_useBy (A, B) (Int32.ofNat j) rule w (k + 200) = some (ub2 (A 2 j) (A 3 j) (A 5 j) (A 0 4) rule w, (A, B2)) := by
  have hj' : 0 ≤ Int32.ofNat j ∧ Int32.ofNat j < 5 := ⟨p_0le j (by omega), (p_lt (b := 5) (by omega) (by omega)).mpr hj⟩
  obtain ⟨B2, g1, g2, g3, g4⟩ := m_lw1 (A := A) k B hj' (A 5 j)
  rw [p_tn (by omega)] at g2
  have hs := st_in hp
  unfold f_X4_useBy ub2 fhv
  simp only [m_truly k A B hj, p_bs, p_tn (show j < 2147483648 by omega), if_neg (p_nbi hj (by decide)), g1, m_buse1 k _ hw, g2.b, harm_eq (u := 0) (by decide) hs, harm_eq (u := 1) (by decide) hs, harm_eq (u := 2) (by decide) hs]
  split
  · split <;> exact ⟨_, rfl⟩
  split
  · exact ⟨_, rfl⟩
  split
  · by_cases h : f_X0_trueStage (A 5 j) ≤ 2
    · rw [if_pos h, if_pos (show f_X0_trueStage (A 5 j) < 3 by grind)]
      exact ⟨_, rfl⟩
    · rw [if_neg h, if_neg (show ¬ f_X0_trueStage (A 5 j) < 3 by grind)]
      exact ⟨_, rfl⟩
  split
  · split
    · exact ⟨_, rfl⟩
    split
    · exact ⟨_, rfl⟩
    split <;> exact ⟨_, rfl⟩
  · exact ⟨_, rfl⟩
/-- net by a rule of the jug j, of the class's numbers -/
def nR (K : Nat → Nat → Int32) (rule w : Int32) (j : Nat) : Int32 := K 7 j * f_X1_netOf (K 0 3) (ub2 (K 5 j) (K 6 j) (K 8 j) (K 0 3) rule w) (f_X0_trueStage (K 8 j)) w
theorem m_nbr {K A : Nat → Nat → Int32} (R : KR K A) (k : Nat) (B : Nat → Nat → Int64) {j : Nat} (hj : j < 5) (h1 : Int32.ofNat j < K 0 0) (rule : Int32) {w : Int32} (hw : 0 ≤ w ∧ w < 3) : ∃ B2, f_X4_netByRule (A, B) (Int32.ofNat j) rule w (k + 200) = some (nR K rule w j, (A, B2)) := by
  have g := R.at hj h1
  have hp : 0 ≤ A 5 j ∧ A 5 j ≤ 240 := by rw [← g.1.2.2.2]; exact g.2.2.2.2
  obtain ⟨B2, a1⟩ := m_ubr k A B hj hp rule hw
  have ep : A 0 4 = K 0 3 := R.1.1.2.2.2.1.symm
  unfold f_X4_netByRule
  rw [a1, p_bs]
  dsimp only
  rw [m_truly k A B2 hj, p_bs, p_tn (by omega), if_neg (p_nbi hj (by decide)), net_eq (A, B2) (ub2_in _ _ _ _ _ _) hw (st_in hp)]
  dsimp only
  refine ⟨B2, ?_⟩
  unfold nR
  rw [ep, g.1.1, g.1.2.1, g.1.2.2.1, g.1.2.2.2, Int32.mul_comm]
theorem o_rule {S M : ST} (R : Rel S M) (k : Nat) (p0 rule w p3 : Int32) : O2 (f_X3_rule S p0 rule w p3 (k + 200)) (f_X4_rule M p0 rule w p3 (k + 200)) := by
  unfold f_X3_rule f_X4_rule
  rw [R.jug p0, m_isWhom, m_isIn4, m_isIn1]
  by_cases hj : jIn (S.1 0 0) p0
  · rw [if_pos hj, if_neg (fun z => b2i_dec.mp z hj)]
    cases hw : f_X3_isOneOf w 3
    · simp only [b2i_f0, if_true]
      exact ref_big R (Or.inl rfl) k
    cases hr : f_X3_isOneOf rule 5
    · simp only [b2i_f0, b2i_t0, if_true, if_false]
      exact ref_big R (Or.inr (Or.inl rfl)) k
    cases h3 : f_X3_isOneOf p3 2
    · simp only [b2i_f0, b2i_t0, if_true, if_false]
      exact ref_big R (Or.inr (Or.inl rfl)) k
    simp only [b2i_t0, if_false]
    have g := R.at hj
    obtain ⟨j, hj5, rfl⟩ := p_ix (n := 5) (by decide) g.2.1.1 g.2.1.2
    have hlt : Int32.ofNat j < S.1 0 0 := by have := hj.2.1; grind
    rw [p_tn (by omega)] at g ⊢
    have RR : ∀ B B4, Rel (S.1, B) (M.1, B4) := fun B B4 => R.frame (fun _ _ _ => rfl) (fun _ _ => rfl)
    obtain ⟨K, B⟩ := S
    obtain ⟨A, B4⟩ := M
    dsimp only at RR g hlt
    obtain ⟨B2, a1⟩ := c_ubr k K B j rule w
    rw [a1, p_bs]
    have hp : 0 ≤ A 5 j ∧ A 5 j ≤ 240 := by rw [← g.2.2.1.2.2.2]; exact g.2.2.2.2.2.2
    have ep : A 0 4 = K 0 3 := R.k.1.2.2.2.1.symm
    by_cases hz : p3 = 0
    · rw [if_pos hz, if_pos hz]
      obtain ⟨B3, b1⟩ := m_ubr k A B4 hj5 hp rule (one_iff.mp hw)
      rw [b1, p_bs]
      refine ⟨_, _, _, rfl, ?_, RR B2 B3⟩
      rw [ep, ← g.2.2.1.1, ← g.2.2.1.2.1, ← g.2.2.1.2.2.2]
    · rw [if_neg hz, if_neg hz]
      obtain ⟨B3, b1⟩ := m_nbr R.kr k B4 hj5 hlt rule (one_iff.mp hw)
      dsimp only at b1
      rw [b1, p_bs]
      exact ⟨_, _, _, rfl, rfl, RR B2 B3⟩
  · rw [if_neg hj, if_pos (b2i_dec.mpr hj)]
    exact ref_big R (Or.inl rfl) k
def sN (f : Nat → Int32) : Nat → Int32
  | 0 => 0
  | n + 1 => sN f n + f n
theorem c_brI (k : Nat) (K : Nat → Nat → Int32) (rule w : Int32) (c : Nat) (hc : c ≤ 5) (e : K 0 0 = Int32.ofNat c) : ∀ (m i j : Nat) (B : Nat → Nat → Int64), i + m = c → ∃ q B2, f_X3_bestRule_L33 w rule (k + 200) (m + 1 + j) (sN (nR K rule w) i) (Int32.ofNat i) (K, B) = some (sN (nR K rule w) c, q, (K, B2))
  | 0, i, j, B, h => by
    obtain rfl : i = c := by omega
    refine ⟨Int32.ofNat i, B, ?_⟩
    rw [show 0 + 1 + j = j + 1 by omega, f_X3_bestRule_L33, if_pos (show K 0 0 ≤ _ by rw [e]; grind)]
  | m + 1, i, j, B, h => by
    obtain ⟨B2, a1⟩ := c_ubr k K B i rule w
    rw [show m + 1 + 1 + j = (m + 1 + j) + 1 by omega, f_X3_bestRule_L33, if_neg (show ¬ K 0 0 ≤ _ from fun z => by rw [e] at z; have := (p_le (by omega) (by omega)).mp z; omega), if_pos (show jIn (K 0 0) (Int32.ofNat i) by rw [e]; exact p_jIn hc (by omega)), p_tn (by omega), a1, p_bs]
    obtain ⟨q, B3, g⟩ := c_brI k K rule w c hc e m (i + 1) j B2 (by omega)
    rw [Int32.ofNat_add] at g
    exact ⟨q, B3, g⟩
theorem m_brI {K A : Nat → Nat → Int32} (R : KR K A) (k : Nat) (rule : Int32) {w : Int32} (hw : 0 ≤ w ∧ w < 3) (c : Nat) (hc : c ≤ 5) (e : K 0 0 = Int32.ofNat c) : ∀ (m i j : Nat) (B : Nat → Nat → Int64), i + m = c → ∃ q B2, f_X4_netOfAll_L5 rule w (k + 200) (m + 1 + j) (sN (nR K rule w) i) (Int32.ofNat i) (A, B) = some (sN (nR K rule w) c, q, (A, B2))
  | 0, i, j, B, h => by
    obtain rfl : i = c := by omega
    refine ⟨Int32.ofNat i, B, ?_⟩
    have e2 : A 0 0 = Int32.ofNat i := by rw [← e]; exact R.1.1.1.symm
    rw [show 0 + 1 + j = j + 1 by omega, f_X4_netOfAll_L5, if_pos (show A 0 0 ≤ _ by rw [e2]; grind)]
  | m + 1, i, j, B, h => by
    have e2 : A 0 0 = Int32.ofNat c := by rw [← e]; exact R.1.1.1.symm
    obtain ⟨B2, a1⟩ := m_nbr R k B (j := i) (by omega) (by rw [e]; exact (p_lt (by omega) (by omega)).mpr (by omega)) rule hw
    rw [show m + 1 + 1 + j = (m + 1 + j) + 1 by omega, f_X4_netOfAll_L5, if_neg (show ¬ A 0 0 ≤ _ from fun z => by rw [e2] at z; have := (p_le (by omega) (by omega)).mp z; omega), a1, p_bs]
    obtain ⟨q, B3, g⟩ := m_brI R k rule hw c hc e m (i + 1) j B2 (by omega)
    rw [Int32.ofNat_add] at g
    exact ⟨q, B3, g⟩
theorem c_brA (k : Nat) (K : Nat → Nat → Int32) (rule w : Int32) (c : Nat) (hc : c ≤ 5) (e : K 0 0 = Int32.ofNat c) (B : Nat → Nat → Int64) : ∃ q B2, f_X3_bestRule_L33 w rule (k + 200) (k + 200) 0 0 (K, B) = some (sN (nR K rule w) c, q, (K, B2)) := by
  obtain ⟨q, B2, h⟩ := c_brI k K rule w c hc e c 0 (k + 199 - c) B (by omega)
  rw [show c + 1 + (k + 199 - c) = k + 200 by omega] at h
  exact ⟨q, B2, h⟩
theorem m_brA {K A : Nat → Nat → Int32} (R : KR K A) (k : Nat) (rule : Int32) {w : Int32} (hw : 0 ≤ w ∧ w < 3) (c : Nat) (hc : c ≤ 5) (e : K 0 0 = Int32.ofNat c) (B : Nat → Nat → Int64) : ∃ B2, f_X4_netOfAll (A, B) rule w (k + 200) = some (sN (nR K rule w) c, (A, B2)) := by
  obtain ⟨q, B2, h⟩ := m_brI R k rule hw c hc e c 0 (k + 199 - c) B (by omega)
  rw [show c + 1 + (k + 199 - c) = k + 200 by omega] at h
  have h' : f_X4_netOfAll_L5 rule w (k + 200) (k + 200) 0 0 (A, B) = _ := h
  unfold f_X4_netOfAll
  rw [h', p_bs]
  exact ⟨B2, rfl⟩
def ami (g : Nat → Int32) : Nat → Nat → Nat → Nat
  | 0, _, b => b
  | m + 1, i, b => ami g m (i + 1) (if g i ≤ g b then b else i)
theorem c_brO (k : Nat) (K : Nat → Nat → Int32) (w : Int32) (c : Nat) (hc : c ≤ 5) (e : K 0 0 = Int32.ofNat c) (g : Nat → Int32) (hg : ∀ i, g i = sN (nR K (Int32.ofNat i) w) c) : ∀ (m i j b : Nat) (B : Nat → Nat → Int64), i + m = 5 → 0 < i → ∃ x q B2, f_X3_bestRule_L21 w (k + 200) (m + 1 + j) (Int32.ofNat b) (g b) (Int32.ofNat i) (K, B) = some (Int32.ofNat (ami g m i b), x, q, (K, B2))
  | 0, i, j, b, B, h, h0 => by
    obtain rfl : i = 5 := by omega
    refine ⟨g b, Int32.ofNat 5, B, ?_⟩
    rw [show 0 + 1 + j = j + 1 by omega, f_X3_bestRule_L21, if_pos (by decide)]
    rfl
  | m + 1, i, j, b, B, h, h0 => by
    obtain ⟨q, B2, a1⟩ := c_brA k K (Int32.ofNat i) w c hc e B
    rw [show m + 1 + 1 + j = (m + 1 + j) + 1 by omega, f_X3_bestRule_L21, if_neg (fun z => by have := (p_le (a := 5) (by omega) (by omega)).mp z; omega), a1, p_bs, if_neg (p_ne0 h0 (by omega)), ← hg i, ami]
    dsimp only
    by_cases h9 : g i ≤ g b
    · rw [if_pos h9, if_pos h9]
      obtain ⟨x, q, B3, d⟩ := c_brO k K w c hc e g hg m (i + 1) j b B2 (by omega) (by omega)
      rw [Int32.ofNat_add] at d
      exact ⟨x, q, B3, d⟩
    · rw [if_neg h9, if_neg h9]
      obtain ⟨x, q, B3, d⟩ := c_brO k K w c hc e g hg m (i + 1) j i B2 (by omega) (by omega)
      rw [Int32.ofNat_add] at d
      exact ⟨x, q, B3, d⟩
theorem m_brO {K A : Nat → Nat → Int32} (R : KR K A) (k : Nat) {w : Int32} (hw : 0 ≤ w ∧ w < 3) (c : Nat) (hc : c ≤ 5) (e : K 0 0 = Int32.ofNat c) (g : Nat → Int32) (hg : ∀ i, g i = sN (nR K (Int32.ofNat i) w) c) : ∀ (m i j b : Nat) (B : Nat → Nat → Int64), i + m = 5 → ∃ q B2, f_X4_bestRule_L17 w (k + 200) (m + 1 + j) (Int32.ofNat b) (Int32.ofNat i) (A, B) = some (Int32.ofNat (ami g m i b), q, (A, B2))
  | 0, i, j, b, B, h => by
    obtain rfl : i = 5 := by omega
    refine ⟨Int32.ofNat 5, B, ?_⟩
    rw [show 0 + 1 + j = j + 1 by omega, f_X4_bestRule_L17, if_pos (by decide)]
    rfl
  | m + 1, i, j, b, B, h => by
    obtain ⟨B2, a1⟩ := m_brA R k (Int32.ofNat i) hw c hc e B
    obtain ⟨B3, a2⟩ := m_brA R k (Int32.ofNat b) hw c hc e B2
    rw [show m + 1 + 1 + j = (m + 1 + j) + 1 by omega, f_X4_bestRule_L17, if_neg (fun z => by have := (p_le (a := 5) (by omega) (by omega)).mp z; omega), a1, p_bs, a2, p_bs, ← hg i, ← hg b, ami]
    dsimp only
    by_cases h9 : g i ≤ g b
    · rw [if_pos h9, if_pos h9]
      obtain ⟨q, B4, d⟩ := m_brO R k hw c hc e g hg m (i + 1) j b B3 (by omega)
      rw [Int32.ofNat_add] at d
      exact ⟨q, B4, d⟩
    · rw [if_neg h9, if_neg h9]
      obtain ⟨q, B4, d⟩ := m_brO R k hw c hc e g hg m (i + 1) j i B3 (by omega)
      rw [Int32.ofNat_add] at d
      exact ⟨q, B4, d⟩
theorem o_bestRule {S M : ST} (R : Rel S M) (k : Nat) (w : Int32) : O2 (f_X3_bestRule S w (k + 200)) (f_X4_bestRule M w (k + 200)) := by
  unfold f_X3_bestRule f_X4_bestRule
  rw [m_isWhom]
  cases hw : f_X3_isOneOf w 3
  · simp only [b2i_f0, if_true]
    exact ref_no R (Or.inl rfl) k
  simp only [b2i_t0, if_false]
  have hw' := one_iff.mp hw
  obtain ⟨c, hc, e, -⟩ := R.kr.jc
  have RR : ∀ B B4, Rel (S.1, B) (M.1, B4) := fun B B4 => R.frame (fun _ _ _ => rfl) (fun _ _ => rfl)
  have KK := R.kr
  obtain ⟨K, B⟩ := S
  obtain ⟨A, B4⟩ := M
  dsimp only at RR KK e
  obtain ⟨q, B1, a1⟩ := c_brA k K 0 w c hc e B
  obtain ⟨x, q2, B2, a2⟩ := c_brO k K w c hc e (fun i => sN (nR K (Int32.ofNat i) w) c) (fun _ => rfl) 4 1 (k + 194) 0 B1 (by decide) (by decide)
  obtain ⟨q3, B3, b1⟩ := m_brO KK k hw' c hc e (fun i => sN (nR K (Int32.ofNat i) w) c) (fun _ => rfl) 4 1 (k + 195) 0 B4 (by decide)
  rw [show 4 + 1 + (k + 194) = k + 199 by omega] at a2
  rw [show 4 + 1 + (k + 195) = k + 200 by omega] at b1
  have a2' : f_X3_bestRule_L21 w (k + 200) (k + 199) 0 (sN (nR K 0 w) c) (0 + 1) (K, B1) = _ := a2
  have b1' : f_X4_bestRule_L17 w (k + 200) (k + 200) 0 1 (A, B4) = _ := b1
  have l1 : f_X3_bestRule_L21 w (k + 200) (k + 200) 0 0 0 (K, B) = f_X3_bestRule_L21 w (k + 200) (k + 199) 0 (sN (nR K 0 w) c) (0 + 1) (K, B1) := by
    conv => lhs; rw [show k + 200 = (k + 199) + 1 from rfl, f_X3_bestRule_L21]
    rw [if_neg (by decide), a1, p_bs, if_pos rfl]
  rw [l1, a2', p_bs, b1', p_bs]
  exact ⟨_, _, _, rfl, rfl, RR B2 B3⟩
