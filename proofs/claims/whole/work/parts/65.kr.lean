/-! kitchens alone: the class's K, the reference's A -/
def KR (K A : Nat → Nat → Int32) : Prop := RKt K (mK A) ∧ GK K
theorem Rel.kr {S M : ST} (R : Rel S M) : KR S.1 M.1 := ⟨R.k, R.g⟩
theorem KR.uHand {K A : Nat → Nat → Int32} (R : KR K A) (v : Int32) (hv : 0 ≤ v ∧ (v < K 0 0 ∨ K 0 0 = 0 ∧ v = 0)) : KR (kE K 0 1 v) (kE A 0 1 v) := ⟨(R.1.row0 1 (by decide) v).id' rfl (mK_s1 A v), R.2.hand v hv⟩
theorem KR.uSeen {K A : Nat → Nat → Int32} (R : KR K A) (v : Int32) (hv : 0 ≤ v ∧ v ≤ 8) : KR (kE K 0 2 v) (kE A 0 2 v) := ⟨(R.1.row0 2 (by decide) v).id' rfl (mK_s2 A v), R.2.seen v hv⟩
theorem KR.uPrice {K A : Nat → Nat → Int32} (R : KR K A) (v : Int32) (hv : 0 ≤ v ∧ v ≤ 9) : KR (kE K 0 3 v) (kE A 0 4 v) := ⟨(R.1.row0 3 (by decide) v).id' rfl (mK_s4 A v), R.2.price v hv⟩
theorem KR.uTest {K A : Nat → Nat → Int32} (R : KR K A) (j : Nat) (v : Int32) (hv : 0 ≤ v ∧ v < 4) : KR (kE K 1 j v) (kE A 7 j v) := ⟨(R.1.row14 1 j (by decide) v).id' rfl (mK_e7 A j v), R.2.test j v hv⟩
theorem KR.uOff {K A : Nat → Nat → Int32} (R : KR K A) (j : Nat) (v : Int32) (hv : 0 ≤ v ∧ v < 2) : KR (kE K 2 j v) (kE A 8 j v) := ⟨(R.1.row14 2 j (by decide) v).id' rfl (mK_e8 A j v), R.2.off j v hv⟩
theorem KR.uCost {K A : Nat → Nat → Int32} (R : KR K A) (j : Nat) (v : Int32) (hv : 0 ≤ v ∧ v ≤ 9) : KR (kE K 3 j v) (kE A 6 j v) := ⟨(R.1.row14 3 j (by decide) v).id' rfl (mK_e6 A j v), R.2.cost j v hv⟩
theorem KR.uPoints {K A : Nat → Nat → Int32} (R : KR K A) (j : Nat) (v : Int32) (hv : 0 ≤ v ∧ v ≤ 240) : KR (kE K 8 j v) (kE A 5 j v) := ⟨(R.1.row58 8 j (by decide) v).id' rfl (mK_e5 A j v), R.2.points j v hv⟩
theorem KR.uCups {K A : Nat → Nat → Int32} (R : KR K A) (j : Nat) (v : Int32) (hv : 1 ≤ v ∧ v ≤ 9) : KR (kE K 7 j v) (kE A 4 j v) := ⟨(R.1.row58 7 j (by decide) v).id' rfl (mK_e4 A j v), R.2.cups j v hv⟩
theorem KR.at {K A : Nat → Nat → Int32} (R : KR K A) {j : Nat} (hj : j < 5) (h1 : Int32.ofNat j < K 0 0) : (K 5 j = A 2 j ∧ K 6 j = A 3 j ∧ K 7 j = A 4 j ∧ K 8 j = A 5 j) ∧ ((0 ≤ K 5 j ∧ K 5 j < 6) ∧ (0 ≤ K 6 j ∧ K 6 j ≤ 9) ∧ (1 ≤ K 7 j ∧ K 7 j ≤ 9) ∧ (0 ≤ K 8 j ∧ K 8 j ≤ 240)) := by
  have g1 := R.2.2.2.2.1 j hj h1
  exact ⟨R.1.2.2.2 j hj h1, g1.1, g1.2.1, ⟨R.2.2.2.2.2 j hj h1, g1.2.2.1.2⟩, g1.2.2.2⟩
theorem KR.jc {K A : Nat → Nat → Int32} (R : KR K A) : ∃ c : Nat, c ≤ 5 ∧ K 0 0 = Int32.ofNat c ∧ A 0 0 = Int32.ofNat c := by
  have h := R.2.1.1
  obtain ⟨c, hc, e⟩ := p_ix (n := 6) (by decide) h.1 (show K 0 0 < 6 by have := h.2; grind)
  exact ⟨c, by omega, e, by rw [← e]; exact R.1.1.1.symm⟩
theorem p_0le (i : Nat) (h : i < 2147483648) : (0 : Int32) ≤ Int32.ofNat i := by rw [show (0 : Int32) = Int32.ofNat 0 from rfl, p_le (by omega) h]; omega
theorem p_jIn {c i : Nat} (hc : c ≤ 5) (hi : i < c) : jIn (Int32.ofNat c) (Int32.ofNat i) := by
  refine ⟨fun z => ?_, fun z => ?_, (p_lt (b := 5) (by omega) (by omega)).mpr (by omega)⟩
  · have := (p_lt (b := 0) (by omega) (by omega)).mp z
    omega
  · have := (p_le (by omega) (by omega)).mp z
    omega
theorem p_nbi {i n : Nat} (hi : i < n) (hn : n < 2147483648) : ¬ (Int32.ofNat i < 0 ∨ n ≤ i) := by
  rintro (h | h)
  · have := (p_lt (b := 0) (by omega) (by omega)).mp h
    omega
  · omega
theorem l_cold (k : Nat) (h : Int32) (hh : 0 ≤ h ∧ h ≤ 99) (c : Nat) (hc : c ≤ 5) (B : Nat → Nat → Int64) : ∀ (m i j : Nat) (K A : Nat → Nat → Int32), KR K A → K 0 0 = Int32.ofNat c → i + m = c → ∃ q q2 K2 A2, f_X1_standInCold_L2 h (k + 200) (m + 1 + j) (Int32.ofNat i) K = some (q, K2) ∧ f_X4_allStand_L2 h (k + 200) (m + 1 + j) (Int32.ofNat i) (A, B) = some (q2, (A2, B)) ∧ KR K2 A2 ∧ (∀ r, r ≠ 8 → K2 r = K r) ∧ (∀ r, r ≠ 5 → A2 r = A r)
  | 0, i, j, K, A, R, e, hi => by
    obtain rfl : i = c := by omega
    have e2 : A 0 0 = Int32.ofNat i := by rw [← e]; exact R.1.1.1.symm
    refine ⟨Int32.ofNat i, Int32.ofNat i, K, A, ?_, ?_, R, fun _ _ => rfl, fun _ _ => rfl⟩
    · rw [show 0 + 1 + j = j + 1 by omega, f_X1_standInCold_L2, if_pos (show K 0 0 ≤ _ by rw [e]; grind)]
    · rw [show 0 + 1 + j = j + 1 by omega, f_X4_allStand_L2, if_pos (show A 0 0 ≤ _ by rw [e2]; grind)]
  | m + 1, i, j, K, A, R, e, hi => by
    have e2 : A 0 0 = Int32.ofNat c := by rw [← e]; exact R.1.1.1.symm
    have hlt : Int32.ofNat i < K 0 0 := by rw [e]; exact (p_lt (by omega) (by omega)).mpr (by omega)
    have g := R.at (j := i) (by omega) hlt
    have hv := gain_in g.2.2.2.2 (p_prod hh (cold_in (kd := K 5 i)))
    obtain ⟨q, q2, K2, A2, h1, h2, h3, h4, h5⟩ := l_cold k h hh c hc B m (i + 1) j (kE K 8 i (f_X0_gain (K 8 i) (h * f_X0_coldPoints (K 5 i)))) (kE A 5 i (f_X0_gain (K 8 i) (h * f_X0_coldPoints (K 5 i)))) (R.uPoints i _ hv) e (by omega)
    refine ⟨q, q2, K2, A2, ?_, ?_, h3, fun r hr => ?_, fun r hr => ?_⟩
    · rw [show m + 1 + 1 + j = (m + 1 + j) + 1 by omega, f_X1_standInCold_L2, if_neg (show ¬ K 0 0 ≤ _ from fun z => by grind), if_pos (show jIn (K 0 0) (Int32.ofNat i) by rw [e]; exact p_jIn hc (by omega)), p_tn (by omega), ← h1, Int32.ofNat_add]
      rfl
    · rw [show m + 1 + 1 + j = (m + 1 + j) + 1 by omega, f_X4_allStand_L2]
      unfold f_X4_gains
      dsimp only
      rw [if_neg (show ¬ A 0 0 ≤ _ from fun z => by rw [e2] at z; rw [e] at hlt; grind), p_tn (by omega), if_neg (p_nbi (i := i) (n := 5) (by omega) (by decide)), if_neg (p_nbi (i := i) (n := 5) (by omega) (by decide)), if_neg (p_nbi (i := i) (n := 5) (by omega) (by decide)), p_bs, m_gain, ← g.1.1, ← g.1.2.2.2, m_cold g.2.1, Int32.mul_comm, ← h2, Int32.ofNat_add]
      rfl
    · rw [h4 r hr]
      show (if r = 8 then _ else K r) = _
      rw [if_neg hr]
    · rw [h5 r hr]
      show (if r = 5 then _ else A r) = _
      rw [if_neg hr]
theorem kr_cold {K A : Nat → Nat → Int32} (R : KR K A) (k : Nat) {h : Int32} (hh : 0 ≤ h ∧ h ≤ 99) (B : Nat → Nat → Int64) : ∃ K2 A2, f_X1_standInCold K h (k + 200) = some K2 ∧ f_X4_allStand (A, B) h (k + 200) = some (A2, B) ∧ KR K2 A2 ∧ (∀ r, r ≠ 8 → K2 r = K r) ∧ (∀ r, r ≠ 5 → A2 r = A r) := by
  obtain ⟨c, hc, e, -⟩ := R.jc
  obtain ⟨q, q2, K2, A2, h1, h2, h3⟩ := l_cold k h hh c hc B c 0 (k + 199 - c) K A R e (by omega)
  rw [show c + 1 + (k + 199 - c) = k + 200 by omega] at h1 h2
  have h1' : f_X1_standInCold_L2 h (k + 200) (k + 200) 0 K = _ := h1
  have h2' : f_X4_allStand_L2 h (k + 200) (k + 200) 0 (A, B) = _ := h2
  refine ⟨K2, A2, ?_, ?_, h3⟩
  · unfold f_X1_standInCold
    rw [h1', p_bs]
  · unfold f_X4_allStand
    rw [h2', p_bs]
theorem l_points (k c : Nat) (hc : c ≤ 5) (B : Nat → Nat → Int64) (K A : Nat → Nat → Int32) (R : KR K A) (e : K 0 0 = Int32.ofNat c) : ∀ (m i j : Nat) (x : Int32), i + m = c → ∃ v q q2, f_X1_allPoints_L4 K (k + 200) (m + 1 + j) x (Int32.ofNat i) = some (v, q) ∧ f_X4_allPoints_L4 (A, B) (k + 200) (m + 1 + j) x (Int32.ofNat i) = some (v, q2)
  | 0, i, j, x, hi => by
    obtain rfl : i = c := by omega
    have e2 : A 0 0 = Int32.ofNat i := by rw [← e]; exact R.1.1.1.symm
    refine ⟨x, Int32.ofNat i, Int32.ofNat i, ?_, ?_⟩
    · rw [show 0 + 1 + j = j + 1 by omega, f_X1_allPoints_L4, if_pos (show K 0 0 ≤ _ by rw [e]; grind)]
    · rw [show 0 + 1 + j = j + 1 by omega, f_X4_allPoints_L4, if_pos (show A 0 0 ≤ _ by rw [e2]; grind)]
  | m + 1, i, j, x, hi => by
    have e2 : A 0 0 = Int32.ofNat c := by rw [← e]; exact R.1.1.1.symm
    have hlt : Int32.ofNat i < K 0 0 := by rw [e]; exact (p_lt (by omega) (by omega)).mpr (by omega)
    have g := R.at (j := i) (by omega) hlt
    obtain ⟨v, q, q2, h1, h2⟩ := l_points k c hc B K A R e m (i + 1) j (x + K 8 i) (by omega)
    refine ⟨v, q, q2, ?_, ?_⟩
    · rw [show m + 1 + 1 + j = (m + 1 + j) + 1 by omega, f_X1_allPoints_L4, if_neg (show ¬ K 0 0 ≤ _ from fun z => by grind), if_pos (show jIn (K 0 0) (Int32.ofNat i) by rw [e]; exact p_jIn hc (by omega)), p_tn (by omega), ← h1, Int32.ofNat_add]
      rfl
    · rw [show m + 1 + 1 + j = (m + 1 + j) + 1 by omega, f_X4_allPoints_L4]
      dsimp only
      rw [if_neg (show ¬ A 0 0 ≤ _ from fun z => by rw [e2] at z; rw [e] at hlt; grind), p_tn (by omega), if_neg (p_nbi (i := i) (n := 5) (by omega) (by decide)), ← g.1.2.2.2, ← h2, Int32.ofNat_add]
      rfl
theorem kr_points {K A : Nat → Nat → Int32} (R : KR K A) (k : Nat) (B : Nat → Nat → Int64) : ∃ v, f_X1_allPoints K (k + 200) = some v ∧ f_X4_allPoints (A, B) (k + 200) = some v := by
  obtain ⟨c, hc, e, -⟩ := R.jc
  obtain ⟨v, q, q2, h1, h2⟩ := l_points k c hc B K A R e c 0 (k + 199 - c) 0 (by omega)
  rw [show c + 1 + (k + 199 - c) = k + 200 by omega] at h1 h2
  have h1' : f_X1_allPoints_L4 K (k + 200) (k + 200) 0 0 = _ := h1
  have h2' : f_X4_allPoints_L4 (A, B) (k + 200) (k + 200) 0 0 = _ := h2
  refine ⟨v, ?_, ?_⟩
  · unfold f_X1_allPoints
    rw [h1', p_bs]
  · unfold f_X4_allPoints
    rw [h2', p_bs]
theorem l_cups (k c : Nat) (hc : c ≤ 5) (B : Nat → Nat → Int64) (K A : Nat → Nat → Int32) (R : KR K A) (e : K 0 0 = Int32.ofNat c) : ∀ (m i j : Nat) (x : Int32), i + m = c → ∃ v q q2, f_X1_allCups_L4 K (k + 200) (m + 1 + j) x (Int32.ofNat i) = some (v, q) ∧ f_X4_allCups_L4 (A, B) (k + 200) (m + 1 + j) x (Int32.ofNat i) = some (v, q2)
  | 0, i, j, x, hi => by
    obtain rfl : i = c := by omega
    have e2 : A 0 0 = Int32.ofNat i := by rw [← e]; exact R.1.1.1.symm
    refine ⟨x, Int32.ofNat i, Int32.ofNat i, ?_, ?_⟩
    · rw [show 0 + 1 + j = j + 1 by omega, f_X1_allCups_L4, if_pos (show K 0 0 ≤ _ by rw [e]; grind)]
    · rw [show 0 + 1 + j = j + 1 by omega, f_X4_allCups_L4, if_pos (show A 0 0 ≤ _ by rw [e2]; grind)]
  | m + 1, i, j, x, hi => by
    have e2 : A 0 0 = Int32.ofNat c := by rw [← e]; exact R.1.1.1.symm
    have hlt : Int32.ofNat i < K 0 0 := by rw [e]; exact (p_lt (by omega) (by omega)).mpr (by omega)
    have g := R.at (j := i) (by omega) hlt
    obtain ⟨v, q, q2, h1, h2⟩ := l_cups k c hc B K A R e m (i + 1) j (x + K 7 i) (by omega)
    refine ⟨v, q, q2, ?_, ?_⟩
    · rw [show m + 1 + 1 + j = (m + 1 + j) + 1 by omega, f_X1_allCups_L4, if_neg (show ¬ K 0 0 ≤ _ from fun z => by grind), if_pos (show jIn (K 0 0) (Int32.ofNat i) by rw [e]; exact p_jIn hc (by omega)), p_tn (by omega), ← h1, Int32.ofNat_add]
      rfl
    · rw [show m + 1 + 1 + j = (m + 1 + j) + 1 by omega, f_X4_allCups_L4]
      dsimp only
      rw [if_neg (show ¬ A 0 0 ≤ _ from fun z => by rw [e2] at z; rw [e] at hlt; grind), p_tn (by omega), if_neg (p_nbi (i := i) (n := 5) (by omega) (by decide)), ← g.1.2.2.1, ← h2, Int32.ofNat_add]
      rfl
theorem kr_cups {K A : Nat → Nat → Int32} (R : KR K A) (k : Nat) (B : Nat → Nat → Int64) : ∃ v, f_X1_allCups K (k + 200) = some v ∧ f_X4_allCups (A, B) (k + 200) = some v := by
  obtain ⟨c, hc, e, -⟩ := R.jc
  obtain ⟨v, q, q2, h1, h2⟩ := l_cups k c hc B K A R e c 0 (k + 199 - c) 0 (by omega)
  rw [show c + 1 + (k + 199 - c) = k + 200 by omega] at h1 h2
  have h1' : f_X1_allCups_L4 K (k + 200) (k + 200) 0 0 = _ := h1
  have h2' : f_X4_allCups_L4 (A, B) (k + 200) (k + 200) 0 0 = _ := h2
  refine ⟨v, ?_, ?_⟩
  · unfold f_X1_allCups
    rw [h1', p_bs]
  · unfold f_X4_allCups
    rw [h2', p_bs]
theorem kP_same {C K : Nat → Nat → Int32} (h : ∀ r, 9 ≤ r → K r = C r) : kP C 0 K = K := by
  funext a
  unfold kP
  split
  · rfl
  · exact (h a (by omega)).symm
theorem o_cold {S M : ST} (R : Rel S M) (k : Nat) (p0 : Int32) : O2 (f_X3_cold S p0 (k + 200)) (f_X4_cold M p0 (k + 200)) := by
  unfold f_X3_cold f_X4_cold
  rw [m_bound]
  by_cases hz : f_X3_refusalOutside p0 0 99 = 0
  · rw [if_pos hz, if_pos hz]
    obtain ⟨A, B⟩ := M
    obtain ⟨K2, A2, h1, h2, h3, h4, h5⟩ := kr_cold R.kr k (out_0.mp hz) B
    obtain ⟨v, h6, h7⟩ := kr_points h3 k B
    rw [kR0, h1, p_bs, h2, p_bs, kP_same (fun r hr => h4 r (by omega)), kR0, h6, h7, p_bs, p_bs]
    refine ⟨v, _, _, rfl, rfl, R.now h3.1 h3.2 (fun r a _ _ => h4 r (by omega)) ?_⟩
    dsimp only
    rw [h5 1 (by decide), h5 10 (by decide), h5 14 (by decide), h5 15 (by decide), h5 0 (by decide)]
    exact ⟨rfl, rfl, fun _ _ => rfl, rfl, rfl, rfl, rfl⟩
  · rw [if_neg hz, if_neg hz]
    exact ref_no R (out_R hz) k
