/-! said -/
theorem p_sr (p : Int32) (c : Nat) (hc : c < 32) : (p >>> Int32.ofNat c).toInt = p.toInt / (2 ^ c : Nat) := by
  show (BitVec.sshiftRight' p.toBitVec ((Int32.ofNat c).toBitVec.smod 32)).toInt = _
  rw [BitVec.toInt_sshiftRight', Int.shiftRight_eq_div_pow]
  have : c = 0 ∨ c = 1 ∨ c = 2 ∨ c = 3 ∨ c = 4 ∨ c = 5 ∨ c = 6 ∨ c = 7 ∨ c = 8 ∨ c = 9 ∨ c = 10 ∨ c = 11 ∨ c = 12 ∨ c = 13 ∨ c = 14 ∨ c = 15 ∨ c = 16 ∨ c = 17 ∨ c = 18 ∨ c = 19 ∨ c = 20 ∨ c = 21 ∨ c = 22 ∨ c = 23 ∨ c = 24 ∨ c = 25 ∨ c = 26 ∨ c = 27 ∨ c = 28 ∨ c = 29 ∨ c = 30 ∨ c = 31 := by omega
  rcases this with rfl | rfl | rfl | rfl | rfl | rfl | rfl | rfl | rfl | rfl | rfl | rfl | rfl | rfl | rfl | rfl | rfl | rfl | rfl | rfl | rfl | rfl | rfl | rfl | rfl | rfl | rfl | rfl | rfl | rfl | rfl | rfl <;> rfl
theorem p_set {p : Int32} {c : Nat} (hc : c ≤ 4) : f_X3_isOneOf p ((1 : Int32) <<< (Int32.ofNat c &&& 31)) = true ↔ ¬ p < 0 ∧ p >>> (Int32.ofNat c &&& 31) = 0 := by
  have hm : Int32.ofNat c &&& 31 = Int32.ofNat c ∧ (1 : Int32) <<< (Int32.ofNat c &&& 31) = Int32.ofNat (2 ^ c) := by
    have : c = 0 ∨ c = 1 ∨ c = 2 ∨ c = 3 ∨ c = 4 := by omega
    rcases this with rfl | rfl | rfl | rfl | rfl <;> decide
  have hp : 2 ^ c ≤ 2 ^ 4 := Nat.pow_le_pow_right (by decide) hc
  have hp0 : 0 < 2 ^ c := Nat.pow_pos (by decide)
  rw [one_iff, hm.1]
  have hs := p_sr p c (by omega)
  rw [hm.1] at hm
  rw [hm.2]
  have e1 : (0 ≤ p) ↔ 0 ≤ p.toInt := Int32.le_iff_toInt_le
  have e2 : (p < Int32.ofNat (2 ^ c)) ↔ p.toInt < (2 ^ c : Nat) := by
    rw [Int32.lt_iff_toInt_lt, Int32.toInt_ofNat_of_lt (by omega)]
  have e3 : (p < 0) ↔ p.toInt < 0 := Int32.lt_iff_toInt_lt
  have e4 : (p >>> Int32.ofNat c = 0) ↔ p.toInt / (2 ^ c : Nat) = 0 := by
    rw [← hs, ← Int32.toInt_inj]
    rfl
  rw [e1, e2, e3, e4]
  constructor
  · rintro ⟨h1, h2⟩
    exact ⟨by omega, Int.ediv_eq_zero_of_lt h1 h2⟩
  · rintro ⟨h1, h2⟩
    refine ⟨by omega, ?_⟩
    have := Int.mul_ediv_add_emod p.toInt (2 ^ c : Nat)
    rw [h2] at this
    have h3 := Int.emod_lt_of_pos p.toInt (show (0 : Int) < (2 ^ c : Nat) by omega)
    omega
theorem hrd_s (kd : Int32) (P : Nat → Int32) (set : Int32) (F : Nat → Int64) (n s : Nat) : hrd kd P set F (n + 1) s = hrd kd P set F n s * Int32.toInt64 (if ((set >>> (Int32.ofNat n &&& 31)) &&& 1) = 1 then pt2 kd (P n) (Int32.ofNat s) else 10 - pt2 kd (P n) (Int32.ofNat s)) := rfl
def alN (x : Int64) : Nat → Int64
  | 0 => x
  | n + 1 => alN x n * 10
theorem c_saidL (k : Nat) (A : Nat → Nat → Int32) (set : Int32) (F : Nat → Int64) (x : Int64) (c : Nat) (hc : c ≤ 4) (e : A 0 4 = Int32.ofNat c) : ∀ (m i j : Nat) (B : Nat → Nat → Int64), i + m = c → E5 (B 0) (hrd (A 34 0) (A 4) set F i) → ∃ q B2, f_X3_said_L68 set (k + 200) (m + 1 + j) (alN x i) (Int32.ofNat i) (A, B) = some (alN x c, q, (A, B2)) ∧ E5 (B2 0) (hrd (A 34 0) (A 4) set F c)
  | 0, i, j, B, h1, h2 => by
    obtain rfl : i = c := by omega
    refine ⟨Int32.ofNat i, B, ?_, h2⟩
    rw [show 0 + 1 + j = j + 1 by omega, f_X3_said_L68, if_pos (show A 0 4 ≤ _ by rw [e]; grind)]
  | m + 1, i, j, B, h1, h2 => by
    obtain ⟨B1, a1, a2⟩ := c_hear k A B (A 4 i) ((set >>> (Int32.ofNat i &&& 31)) &&& 1)
    obtain ⟨q, B2, b1, b2⟩ := c_saidL k A set F x c hc e m (i + 1) j B1 (by omega) (fun s hs => by
      rw [a2 s hs, hr1, h2 s hs, hrd_s])
    refine ⟨q, B2, ?_, b2⟩
    rw [show m + 1 + 1 + j = (m + 1 + j) + 1 by omega, f_X3_said_L68]
    dsimp only
    rw [if_neg (show ¬ A 0 4 ≤ _ from fun z => by rw [e] at z; have := (p_le (by omega) (by omega)).mp z; omega), p_at (by decide) (by omega), a1, p_bs, ← b1, Int32.ofNat_add]
    rfl
theorem m_saidI {A : Nat → Nat → Int32} {kd pt cp : Int32} (h : HM A kd pt cp) (k : Nat) (set : Int32) (F : Nat → Int64) (s : Nat) (hs : s < 5) (c : Nat) (hc : c ≤ 4) (e : A 0 3 = Int32.ofNat c) : ∀ (m i j : Nat) (B : Nat → Nat → Int64), i + m = c → B 1 s = hrd kd (A 9) set F i s → ∃ q B2, f_X4_said_L103 set (Int32.ofNat s) (k + 200) (m + 1 + j) (Int32.ofNat i) (A, B) = some (q, (A, B2)) ∧ B2 1 s = hrd kd (A 9) set F c s ∧ (∀ z, z ≠ s → B2 1 z = B 1 z) ∧ B2 0 = B 0
  | 0, i, j, B, h1, h2 => by
    obtain rfl : i = c := by omega
    refine ⟨Int32.ofNat i, B, ?_, h2, fun _ _ => rfl, rfl⟩
    rw [show 0 + 1 + j = j + 1 by omega, f_X4_said_L103, if_pos (show A 0 3 ≤ _ by rw [e]; grind)]
  | m + 1, i, j, B, h1, h2 => by
    have hs5 : Int32.ofNat s < 5 := (p_lt (b := 5) (by omega) (by omega)).mpr hs
    have key : ∀ v : Int64, v = hrd kd (A 9) set F (i + 1) s → ∃ q B2, f_X4_said_L103 set (Int32.ofNat s) (k + 200) (m + 1 + j) (Int32.ofNat i + 1) (A, kLS B 1 (vp_updL (B 1) s v)) = some (q, (A, B2)) ∧ B2 1 s = hrd kd (A 9) set F c s ∧ (∀ z, z ≠ s → B2 1 z = B 1 z) ∧ B2 0 = B 0 := by
      intro v hv
      obtain ⟨q, B2, g1, g2, g3, g4⟩ := m_saidI h k set F s hs c hc e m (i + 1) j (kLS B 1 (vp_updL (B 1) s v)) (by omega) (by
        show (if s = s then v else _) = _
        rw [if_pos rfl, hv])
      rw [Int32.ofNat_add] at g1
      refine ⟨q, B2, g1, g2, fun z hz => ?_, g4⟩
      rw [g3 z hz]
      show (if z = s then v else B 1 z) = _
      rw [if_neg hz]
    rw [show m + 1 + 1 + j = (m + 1 + j) + 1 by omega, f_X4_said_L103]
    dsimp only
    rw [if_neg (show ¬ A 0 3 ≤ _ from fun z => by rw [e] at z; have := (p_le (by omega) (by omega)).mp z; omega), p_tn (by omega)]
    simp only [if_neg (p_nbi (i := s) (n := 5) hs (by decide)), m_pt h k B (p := i) (by omega) ⟨p_0le s (by omega), hs5⟩, p_bs]
    by_cases ho : ((set >>> (Int32.ofNat i &&& 31)) &&& 1) = 1
    · rw [if_pos ho]
      apply key
      rw [hrd_s, if_pos ho, h2]
    · rw [if_neg ho]
      apply key
      rw [hrd_s, if_neg ho, h2]
theorem m_saidO {A : Nat → Nat → Int32} {kd pt cp : Int32} (h : HM A kd pt cp) (k : Nat) (set : Int32) (F : Nat → Int64) (c : Nat) (hc : c ≤ 4) (e : A 0 3 = Int32.ofNat c) : ∀ (m s j : Nat) (B : Nat → Nat → Int64), s + m = 5 → B 0 = F → (∀ z, z < s → B 1 z = hrd kd (A 9) set F c z) → ∃ q B2, f_X4_said_L80 set (k + 200) (m + 1 + j) (Int32.ofNat s) (A, B) = some (q, (A, B2)) ∧ E5 (B2 1) (hrd kd (A 9) set F c) ∧ B2 0 = F
  | 0, s, j, B, h1, hB, h4 => by
    obtain rfl : s = 5 := by omega
    refine ⟨Int32.ofNat 5, B, ?_, h4, hB⟩
    rw [show 0 + 1 + j = j + 1 by omega, f_X4_said_L80, if_pos (by decide)]
  | m + 1, s, j, B, h1, hB, h4 => by
    rw [show m + 1 + 1 + j = (m + 1 + j) + 1 by omega, f_X4_said_L80]
    dsimp only
    rw [if_neg (fun z => by have := (p_le (a := 5) (by omega) (by omega)).mp z; omega), p_tn (by omega)]
    simp only [if_neg (p_nbi (i := s) (n := 5) (by omega) (by decide))]
    obtain ⟨q, B2, g1, g2, g3, g4⟩ := m_saidI h k set F s (by omega) c hc e c 0 (k + 199 - c) (kLS B 1 (vp_updL (B 1) s (B 0 s))) (by omega) (by
      show (if s = s then _ else _) = _
      rw [if_pos rfl, hB]
      rfl)
    rw [show c + 1 + (k + 199 - c) = k + 200 by omega, show Int32.ofNat 0 = 0 from rfl] at g1
    rw [g1, p_bs]
    obtain ⟨q2, B3, g5, g6⟩ := m_saidO h k set F c hc e m (s + 1) j B2 (by omega) (by rw [g4]; exact hB) (fun z hz => by
      by_cases hz2 : z = s
      · subst hz2
        exact g2
      · rw [g3 z hz2]
        show (if z = s then _ else B 1 z) = _
        rw [if_neg hz2]
        exact h4 z (by omega))
    rw [Int32.ofNat_add] at g5
    exact ⟨q2, B3, g5, g6⟩
theorem m_al (k : Nat) (M : ST) (x : Int64) (c : Nat) (hc : c ≤ 4) (e : M.1 0 3 = Int32.ofNat c) : ∀ (m i j : Nat), i + m = c → ∃ q, f_X4_said_L171 M (k + 200) (m + 1 + j) (alN x i) (Int32.ofNat i) = some (alN x c, q)
  | 0, i, j, h1 => by
    obtain rfl : i = c := by omega
    refine ⟨Int32.ofNat i, ?_⟩
    rw [show 0 + 1 + j = j + 1 by omega, f_X4_said_L171, if_pos (show M.1 0 3 ≤ _ by rw [e]; grind)]
  | m + 1, i, j, h1 => by
    obtain ⟨q, b1⟩ := m_al k M x c hc e m (i + 1) j (by omega)
    refine ⟨q, ?_⟩
    rw [show m + 1 + 1 + j = (m + 1 + j) + 1 by omega, f_X4_said_L171]
    rw [if_neg (show ¬ M.1 0 3 ≤ _ from fun z => by rw [e] at z; have := (p_le (by omega) (by omega)).mp z; omega), ← b1, Int32.ofNat_add]
    rfl
theorem hrd_congr {kd set : Int32} {P Q : Nat → Int32} {F G : Nat → Int64} (hF : E5 F G) : ∀ n, (∀ i, i < n → P i = Q i) → E5 (hrd kd P set F n) (hrd kd Q set G n)
  | 0, _ => hF
  | n + 1, h => fun s hs => by
    rw [hrd_s, hrd_s, hrd_congr hF n (fun i hi => h i (by omega)) s hs, h n (by omega)]
theorem Rel.ppl {S M : ST} (R : Rel S M) : ∃ c : Nat, c ≤ 4 ∧ S.1 0 4 = Int32.ofNat c ∧ M.1 0 3 = Int32.ofNat c := by
  have h := R.g.1.2.2.2.2
  obtain ⟨c, hc, e⟩ := p_ix (n := 5) (by decide) h.1 (show S.1 0 4 < 5 by have := h.2; grind)
  exact ⟨c, by omega, e, by rw [← e]; exact R.k.1.2.2.2.2.symm⟩
theorem o_saidB {S M : ST} (R : Rel S M) (k : Nat) (p0 p1 p2 : Int32) (hj : jIn (S.1 0 0) (S.1 0 1)) : O3
    ((f_X3_think S (k + 200)).bind fun v20 => (f_X2_sumOfAll (v20.2 0) (k + 200)).bind fun v21 => (f_X3_said_L68 p0 (k + 200) (k + 200) v21 0 v20).bind fun v22 =>
        if p1 = 0 then (f_X2_sumOfAll (v22.2.2.2 0) (k + 200)).bind fun v26 => (f_X3_inLeastTerms v26 v22.1 p2 (k + 200)).bind fun v27 => some (v27, v22.2.2)
        else (f_X2_sumOf (v22.2.2.2 0) 0 1 (k + 200)).bind fun v23 => (f_X2_sumOfAll (v22.2.2.2 0) (k + 200)).bind fun v24 => (f_X3_inLeastTerms v23 v24 p2 (k + 200)).bind fun v25 => some (v25, v22.2.2))
    ((f_X4_findThought M (k + 200)).bind fun v3 => (f_X4_allThought v3 (k + 200)).bind fun v4 => (f_X4_said_L80 p0 (k + 200) (k + 200) 0 v3).bind fun v14 => (f_X4_said_L171 v14.2 (k + 200) (k + 200) v4 0).bind fun v15 =>
            if p1 = 0 then (f_X4_allParts v14.2 (k + 200)).bind fun v18 => (f_X4_partOf v18 v15.1 p2 (k + 200)).bind fun v19 => some (v19, v14.2)
            else (f_X4_allParts v14.2 (k + 200)).bind fun v16 => (f_X4_partOf (((v14.2.2 1) (Int32.toNatClampNeg 0)) + ((v14.2.2 1) (Int32.toNatClampNeg 1))) v16 p2 (k + 200)).bind fun v17 => some (v17, v14.2)) := by
  obtain ⟨S2, M2, h1, h2, T⟩ := think_both R hj k
  obtain ⟨c, hc, e1, e2⟩ := T.1.ppl
  have eP : ∀ i, i < c → S2.1 4 i = M2.1 9 i := fun i hi => (T.1.k.2.2.1 i (by omega)).2
  have T4 := T.2.2.2.1
  have T5 := T.2.2.2.2.1
  have hk := T.2.2.2.2.2.1.1
  have hm := T.2.2.2.2.2.2.1
  rw [h1, h2, p_bs, p_bs, c_sumAll, p_bs, m_all0, p_bs]
  obtain ⟨A, B⟩ := S2
  obtain ⟨A4, B4⟩ := M2
  dsimp only at e1 e2 eP T4 T5 hk hm
  obtain ⟨q, B2, a1, a2⟩ := c_saidL k A p0 (B 0) (sumv (B 0)) c hc e1 c 0 (k + 199 - c) B (by omega) (fun _ _ => rfl)
  obtain ⟨q2, B3, b1, b2, b3⟩ := m_saidO hm k p0 (B4 0) c hc e2 5 0 (k + 194) B4 (by decide) rfl (fun z hz => by omega)
  obtain ⟨q3, d1⟩ := m_al k (A4, B3) (sumv (B4 0)) c hc e2 c 0 (k + 199 - c) (by omega)
  rw [show c + 1 + (k + 199 - c) = k + 200 by omega] at a1 d1
  rw [show 5 + 1 + (k + 194) = k + 200 by omega] at b1
  have a1' : f_X3_said_L68 p0 (k + 200) (k + 200) (sumv (B 0)) 0 (A, B) = _ := a1
  have b1' : f_X4_said_L80 p0 (k + 200) (k + 200) 0 (A4, B4) = _ := b1
  have d1' : f_X4_said_L171 (A4, B3) (k + 200) (k + 200) (sumv (B4 0)) 0 = _ := d1
  rw [a1', p_bs, b1', p_bs, d1', p_bs]
  dsimp only
  have hE : E5 (B2 0) (B3 1) := by
    refine a2.trans (E5.trans ?_ b2.symm)
    rw [hk]
    exact hrd_congr (T4.trans T5.symm) c eP
  have hA : sumv (B 0) = sumv (B4 0) := (T4.trans T5.symm).a
  have RR : Rel (A, B2) (A4, B3) := R.frame T.2.1 (fun r _ => by rw [T.2.2.1])
  by_cases hp : p1 = 0
  · rw [if_pos hp, if_pos hp, c_sumAll, p_bs, c_frac, p_bs, m_all1, p_bs, m_frac, p_bs]
    exact ⟨_, _, _, rfl, by rw [hE.a, hA], RR⟩
  · rw [if_neg hp, if_neg hp, c_sum01, p_bs, c_sumAll, p_bs, c_frac, p_bs, m_all1, p_bs, m_frac, p_bs]
    refine ⟨_, _, _, rfl, ?_, RR⟩
    rw [hE.a, hE 0 (by decide), hE 1 (by decide)]
    rfl
theorem o_said {S M : ST} (R : Rel S M) (k : Nat) (p0 p1 p2 : Int32) : O3 (f_X3_said S p0 p1 p2 (k + 200)) (f_X4_said M p0 p1 p2 (k + 200)) := by
  unfold f_X3_said f_X4_said
  rw [m_isIn1, m_isIn1]
  obtain ⟨c, hc, e1, e2⟩ := R.ppl
  have hset := p_set (p := p0) hc
  rw [e1, e2]
  cases hq : f_X3_isOneOf p0 ((1 : Int32) <<< (Int32.ofNat c &&& 31))
  · have hn : ¬ (¬ p0 < 0 ∧ p0 >>> (Int32.ofNat c &&& 31) = 0) := fun z => by rw [hset.mpr z] at hq; cases hq
    have hR : ∀ X : Option (Int64 × ST), (if p0 < 0 then (f_X4_lowest M (-1) (k + 200)).bind fun v => some (v.1, v.2) else if p0 >>> (Int32.ofNat c &&& 31) = 0 then X else (f_X4_lowest M (-1) (k + 200)).bind fun v => some (v.1, v.2)) = (f_X4_lowest M (-1) (k + 200)).bind fun v => some (v.1, v.2) := fun X => by
      by_cases h1 : p0 < 0
      · rw [if_pos h1]
      · rw [if_neg h1, if_neg (fun z => hn ⟨h1, z⟩)]
    rw [hR]
    have n1 : ¬ ((-1 : Int32) = 0) := by decide
    simp only [rih_f, if_neg n1]
    repeat' split
    all_goals exact ref_long R (Or.inl rfl) k
  · have hn := hset.mp hq
    rw [if_neg hn.1, if_pos hn.2]
    cases f_X3_isOneOf p1 2
    · simp only [b2i_f0, if_true, rih_tf]
      rw [if_neg (by decide)]
      exact ref_long R (Or.inr (Or.inl rfl)) k
    simp only [b2i_t0, if_false]
    cases f_X3_isOneOf p2 2
    · simp only [b2i_f0, if_true, rih_tf]
      rw [if_neg (by decide)]
      exact ref_long R (Or.inr (Or.inl rfl)) k
    simp only [b2i_t0, if_false]
    by_cases hj : jIn (S.1 0 0) (S.1 0 1)
    · rw [rih_y hj, if_pos rfl, if_neg (R.in0.mp hj)]
      exact o_saidB R k p0 p1 p2 hj
    · rw [rih_n hj, if_neg (by decide), if_pos (Classical.not_not.mp (fun z => hj (R.in0.mpr z)))]
      exact ref_long R (Or.inr (Or.inr (Or.inl rfl))) k
