/-! seldom -/
def sdo (F : Nat → Int64) (v : Int32) (u : Int32) : Bool := decide (100 * hsum F u ≤ Int32.toInt64 v * sumv F)
def sd1 (pr : Int32) (F : Nat → Int64) (w v b u : Int32) : Int32 := if sdo F v u = true then (if b < 0 then u else stb (fun u => nsum pr F u w) b u) else b
def sdi (pr : Int32) (F : Nat → Int64) (w b : Int32) (x : Int64) : Prop := b = -9 ∨ (0 ≤ b ∧ b < 5) ∧ x = nsum pr F b w
theorem c_sd (k n : Nat) (A : Nat → Nat → Int32) (B : Nat → Nat → Int64) (w v b u u2 : Int32) (x : Int64) (h : sdi (A 0 3) (B 0) w b x) (hu : 0 ≤ u ∧ u < 5) (e : u + 1 = u2) : ∃ x2, f_X3_seldom_L56 w v (sumv (B 0)) (A, B) (k + 200) (n + 1) b x u = f_X3_seldom_L56 w v (sumv (B 0)) (A, B) (k + 200) n (sd1 (A 0 3) (B 0) w v b u) x2 u2 ∧ sdi (A 0 3) (B 0) w (sd1 (A 0 3) (B 0) w v b u) x2 := by
  rw [f_X3_seldom_L56, if_neg (by grind), c_nsum, p_bs, c_hsum, p_bs, e]
  simp only [lg_cmp_gt, lg_cmp_le, sd1, sdo, decide_eq_true_eq]
  by_cases h1 : 100 * hsum (B 0) u ≤ Int32.toInt64 v * sumv (B 0)
  · rw [if_neg (Int64.not_lt.mpr h1), if_pos h1]
    rcases h with h2 | ⟨h2, h3⟩
    · rw [if_pos h2, if_pos (show b < 0 by rw [h2]; decide)]
      exact ⟨_, rfl, Or.inr ⟨hu, rfl⟩⟩
    · rw [if_neg (show ¬ b = -9 from fun z => by rw [z] at h2; exact absurd h2.1 (by decide)), if_neg (show ¬ b < 0 by have := h2.1; grind), h3]
      unfold stb
      by_cases h4 : nsum (A 0 3) (B 0) u w ≤ nsum (A 0 3) (B 0) b w
      · rw [if_pos h4, if_neg (show ¬ nsum (A 0 3) (B 0) b w < nsum (A 0 3) (B 0) u w from Int64.not_lt.mpr h4)]
        exact ⟨_, rfl, Or.inr ⟨h2, rfl⟩⟩
      · rw [if_neg h4, if_pos (show nsum (A 0 3) (B 0) b w < nsum (A 0 3) (B 0) u w from Int64.not_le.mp h4)]
        exact ⟨_, rfl, Or.inr ⟨hu, rfl⟩⟩
  · rw [if_pos (Int64.not_le.mp h1), if_neg h1]
    exact ⟨x, rfl, h⟩
theorem m_sd (k n : Nat) (M : ST) {w : Int32} (hw : 0 ≤ w ∧ w < 3) (v b u u2 : Int32) (h : b = -9 ∨ 0 ≤ b ∧ b < 5) (hu : 0 ≤ u ∧ u < 5) (e : u + 1 = u2) : f_X4_seldom_L39 w v M (k + 200) (n + 1) b u = f_X4_seldom_L39 w v M (k + 200) n (sd1 (M.1 0 4) (M.2 0) w v b u) u2 ∧ (sd1 (M.1 0 4) (M.2 0) w v b u = -9 ∨ 0 ≤ sd1 (M.1 0 4) (M.2 0) w v b u ∧ sd1 (M.1 0 4) (M.2 0) w v b u < 5) := by
  rw [f_X4_seldom_L39, if_neg (by grind), m_hsum k M u hu, p_bs, m_all0, p_bs, e]
  simp only [lg_cmp_le, sd1, sdo, decide_eq_true_eq]
  by_cases h1 : 100 * hsum (M.2 0) u ≤ Int32.toInt64 v * sumv (M.2 0)
  · rw [if_pos h1, if_pos h1]
    rcases h with h2 | h2
    · rw [if_pos (show b < 0 by rw [h2]; decide), if_pos (show b < 0 by rw [h2]; decide)]
      exact ⟨rfl, Or.inr hu⟩
    · rw [if_neg (show ¬ b < 0 by have := h2.1; grind), if_neg (show ¬ b < 0 by have := h2.1; grind), m_net0 k M hu hw, p_bs, m_net0 k M h2 hw, p_bs]
      unfold stb
      simp only [lg_cmp_le]
      by_cases h4 : nsum (M.1 0 4) (M.2 0) u w ≤ nsum (M.1 0 4) (M.2 0) b w
      · rw [if_pos h4, if_neg (show ¬ nsum (M.1 0 4) (M.2 0) b w < nsum (M.1 0 4) (M.2 0) u w from Int64.not_lt.mpr h4)]
        exact ⟨rfl, Or.inr h2⟩
      · rw [if_neg h4, if_pos (show nsum (M.1 0 4) (M.2 0) b w < nsum (M.1 0 4) (M.2 0) u w from Int64.not_le.mp h4)]
        exact ⟨rfl, Or.inr hu⟩
  · rw [if_neg h1, if_neg h1]
    exact ⟨rfl, h⟩
def sd5 (pr : Int32) (F : Nat → Int64) (w v : Int32) : Int32 := sd1 pr F w v (sd1 pr F w v (sd1 pr F w v (sd1 pr F w v (sd1 pr F w v (-9) 0) 1) 2) 3) 4
theorem c_sd5 (k : Nat) (A : Nat → Nat → Int32) (B : Nat → Nat → Int64) (w v : Int32) : ∃ x q, f_X3_seldom_L56 w v (sumv (B 0)) (A, B) (k + 200) (k + 200) (-9) 0 0 = some (sd5 (A 0 3) (B 0) w v, x, q) := by
  obtain ⟨x1, h1, g1⟩ := c_sd k (k + 199) A B w v (-9) 0 1 0 (Or.inl rfl) (by decide) (by decide)
  obtain ⟨x2, h2, g2⟩ := c_sd k (k + 198) A B w v _ 1 2 x1 g1 (by decide) (by decide)
  obtain ⟨x3, h3, g3⟩ := c_sd k (k + 197) A B w v _ 2 3 x2 g2 (by decide) (by decide)
  obtain ⟨x4, h4, g4⟩ := c_sd k (k + 196) A B w v _ 3 4 x3 g3 (by decide) (by decide)
  obtain ⟨x5, h5, g5⟩ := c_sd k (k + 195) A B w v _ 4 5 x4 g4 (by decide) (by decide)
  refine ⟨x5, 5, h1.trans (h2.trans (h3.trans (h4.trans (h5.trans ?_))))⟩
  rw [f_X3_seldom_L56, if_pos (by decide)]
  rfl
theorem m_sd5 (k : Nat) (M : ST) {w : Int32} (hw : 0 ≤ w ∧ w < 3) (v : Int32) : ∃ q, f_X4_seldom_L39 w v M (k + 200) (k + 200) (-9) 0 = some (sd5 (M.1 0 4) (M.2 0) w v, q) := by
  obtain ⟨h1, g1⟩ := m_sd k (k + 199) M hw v (-9) 0 1 (Or.inl rfl) (by decide) (by decide)
  obtain ⟨h2, g2⟩ := m_sd k (k + 198) M hw v _ 1 2 g1 (by decide) (by decide)
  obtain ⟨h3, g3⟩ := m_sd k (k + 197) M hw v _ 2 3 g2 (by decide) (by decide)
  obtain ⟨h4, g4⟩ := m_sd k (k + 196) M hw v _ 3 4 g3 (by decide) (by decide)
  obtain ⟨h5, g5⟩ := m_sd k (k + 195) M hw v _ 4 5 g4 (by decide) (by decide)
  refine ⟨5, h1.trans (h2.trans (h3.trans (h4.trans (h5.trans ?_))))⟩
  rw [f_X4_seldom_L39, if_pos (by decide)]
  rfl
theorem sd5_E {F G : Nat → Int64} (h : E5 F G) (pr w v : Int32) : sd5 pr F w v = sd5 pr G w v := by
  unfold sd5 sd1 sdo
  simp only [h.h, h.a, h.n]
theorem o_seldom {S M : ST} (R : Rel S M) (k : Nat) (w v : Int32) : O2 (f_X3_seldom S w v (k + 200)) (f_X4_seldom M w v (k + 200)) := by
  unfold f_X3_seldom f_X4_seldom
  rw [m_notBest R, m_bound]
  rcases rih_cases S (f_X3_isOneOf w 3) true with hz | ⟨hz, h0, -, hj⟩
  · rw [if_neg hz, if_neg hz]
    exact ref_no R (rih_R hz) k
  rw [if_pos hz, if_pos hz]
  by_cases hv : f_X3_refusalOutside v 0 100 = 0
  · rw [if_pos hv, if_pos hv]
    obtain ⟨S2, M2, h1, h2, T⟩ := think_both R hj k
    rw [h1, h2, p_bs, p_bs, c_sumAll, p_bs]
    obtain ⟨q3, a2⟩ := m_sd5 k M2 (one_iff.mp h0) v
    have e5 := T.2.2.2.2.2.2.2.1
    have e6 := T.2.2.2.2.2.2.2.2
    have T4 := T.2.2.2.1
    have T5 := T.2.2.2.2.1
    have T1 := T.1
    obtain ⟨A, B⟩ := S2
    obtain ⟨x, q, a1⟩ := c_sd5 k A B w v
    rw [a1, a2, p_bs, p_bs]
    refine ⟨_, _, _, rfl, ?_, T1⟩
    dsimp only at e5 e6 T4
    rw [e5, e6, sd5_E T4, sd5_E T5]
  · rw [if_neg hv, if_neg hv]
    exact ref_no R (out_R hv) k
/-! keep -/
theorem gain_nat {a b : Nat} (ha : a ≤ 240) (hb : b ≤ 1000000) : f_X0_gain (Int32.ofNat a) (Int32.ofNat b) = Int32.ofNat (min 240 (a + b)) := by
  unfold f_X0_gain
  rw [← Int32.ofNat_add, show (240 : Int32) = Int32.ofNat 240 from rfl]
  by_cases h : a + b < 240
  · rw [if_pos ((p_lt (by omega) (by omega)).mpr h), Nat.min_eq_right (by omega)]
  · rw [if_neg (fun z => h ((p_lt (by omega) (by omega)).mp z)), Nat.min_eq_left (by omega)]
theorem cold_nat (kd : Int32) : ∃ c : Nat, c ≤ 3 ∧ f_X0_coldPoints kd = Int32.ofNat c := by
  unfold f_X0_coldPoints
  repeat' split
  all_goals first | exact ⟨3, by decide, rfl⟩ | exact ⟨2, by decide, rfl⟩ | exact ⟨1, by decide, rfl⟩
/-- points after d days more in the cold -/
def pd (kd pt : Int32) : Nat → Int32
  | 0 => pt
  | d + 1 => f_X0_gain (pd kd pt d) (24 * f_X0_coldPoints kd)
theorem pd_nat {kd : Int32} {a c : Nat} (ha : a ≤ 240) (hc : c ≤ 3) (e : f_X0_coldPoints kd = Int32.ofNat c) : ∀ d, d ≤ 20 → pd kd (Int32.ofNat a) d = Int32.ofNat (min 240 (a + 24 * c * d))
  | 0, _ => by
    rw [pd, Nat.mul_zero, Nat.add_zero, Nat.min_eq_right ha]
  | d + 1, h => by
    rw [pd, pd_nat ha hc e d (by omega), e, show (24 : Int32) = Int32.ofNat 24 from rfl, ← Int32.ofNat_mul, gain_nat (by omega) (by omega)]
    congr 1
    rw [Nat.mul_add]
    omega
theorem pd_eq {kd pt : Int32} (h : 0 ≤ pt ∧ pt ≤ 240) (d : Nat) (hd : d ≤ 20) : f_X0_gain pt ((24 * Int32.ofNat d) * f_X0_coldPoints kd) = pd kd pt d := by
  obtain ⟨a, ha, rfl⟩ := p_ix (n := 241) (by decide) h.1 (show pt < 241 by have := h.2; grind)
  obtain ⟨c, hc, e⟩ := cold_nat kd
  have hm : 24 * d * c ≤ 24 * 20 * 3 := Nat.mul_le_mul (Nat.mul_le_mul (by omega) hd) hc
  rw [pd_nat (by omega) hc e d hd, e, show (24 : Int32) = Int32.ofNat 24 from rfl, ← Int32.ofNat_mul, ← Int32.ofNat_mul, gain_nat (by omega) (by omega), Nat.mul_right_comm]
theorem pd_in {kd pt : Int32} (h : 0 ≤ pt ∧ pt ≤ 240) (d : Nat) (hd : d ≤ 20) : 0 ≤ pd kd pt d ∧ pd kd pt d ≤ 240 := by
  obtain ⟨a, ha, rfl⟩ := p_ix (n := 241) (by decide) h.1 (show pt < 241 by have := h.2; grind)
  obtain ⟨c, hc, e⟩ := cold_nat kd
  rw [pd_nat (by omega) hc e d hd]
  exact ⟨p_0le _ (by omega), (p_le (b := 240) (by omega) (by omega)).mpr (by omega)⟩
theorem m_lw1 {A : Nat → Nat → Int32} (k : Nat) (B : Nat → Nat → Int64) {j : Int32} (hj : 0 ≤ j ∧ j < 5) (v : Int32) : ∃ B2, f_X4_laysWeights_1 (A, B) j v (k + 200) = some (A, B2) ∧ E5 (B2 1) (wv (A 2 (Int32.toNatClampNeg j)) v) ∧ B2 0 = B 0 ∧ B2 2 = B 2 := by
  have e : ∀ (B : Nat → Nat → Int64) (r q : Nat → Int64), kLS (kLS B 1 r) 1 q = kLS B 1 q := fun B r q => by
    funext b
    unfold kLS
    split <;> rfl
  have g := fun B s => m_weightAt A B k hj v s
  refine ⟨kLS B 1 (v5 (B 1) (wv (A 2 (Int32.toNatClampNeg j)) v)), ?_, E5.v, rfl, rfl⟩
  rw [← v5_up]
  unfold f_X4_laysWeights_1 wv
  simp [f_X4_laysWeights_1_L3, g, e, kLS_11]
theorem m_lw2 {A : Nat → Nat → Int32} (k : Nat) (B : Nat → Nat → Int64) {j : Int32} (hj : 0 ≤ j ∧ j < 5) (v : Int32) : ∃ B2, f_X4_laysWeights_2 (A, B) j v (k + 200) = some (A, B2) ∧ E5 (B2 2) (wv (A 2 (Int32.toNatClampNeg j)) v) ∧ B2 0 = B 0 ∧ B2 1 = B 1 := by
  have e : ∀ (B : Nat → Nat → Int64) (r q : Nat → Int64), kLS (kLS B 2 r) 2 q = kLS B 2 q := fun B r q => by
    funext b
    unfold kLS
    split <;> rfl
  have g := fun B s => m_weightAt A B k hj v s
  refine ⟨kLS B 2 (v5 (B 2) (wv (A 2 (Int32.toNatClampNeg j)) v)), ?_, E5.v, rfl, rfl⟩
  rw [← v5_up]
  unfold f_X4_laysWeights_2 wv
  simp [f_X4_laysWeights_2_L3, g, e, kLS_22]
/-- what day d is worth, over all weights then -/
def kA (pr kd pt cp w wt : Int32) (d : Nat) : Int64 := Int32.toInt64 cp * bsum pr (wv kd (pd kd pt d)) w - (Int32.toInt64 wt * Int32.toInt64 (Int32.ofNat d)) * sumv (wv kd (pd kd pt d))
def kB (kd pt : Int32) (d : Nat) : Int64 := sumv (wv kd (pd kd pt d))
def kbest (f g : Nat → Int64) : Nat → Nat → Nat → Nat
  | 0, _, b => b
  | m + 1, i, b => kbest f g m (i + 1) (if f i * g b ≤ f b * g i then b else i)
theorem p_ne0 {i : Nat} (h : 0 < i) (h2 : i < 2147483648) : ¬ Int32.ofNat i = 0 := fun z => by
  have : Int32.toNatClampNeg (Int32.ofNat i) = 0 := by rw [z]; rfl
  rw [p_tn h2] at this
  omega
theorem c_keepL (k : Nat) (pr kd pt cp w wt : Int32) (n : Nat) (hn : n ≤ 7) : ∀ (m i j b : Nat) (S : ST), i + m = n + 1 → 0 < i → S.1 0 3 = pr → S.1 34 2 = cp → S.1 35 0 = kd → S.1 35 3 = pd kd pt i → ∃ x y q S2, f_X3_keep_L85 w (Int32.ofNat n) wt (k + 200) (m + 1 + j) (Int32.ofNat b) (kA pr kd pt cp w wt b) (kB kd pt b) (Int32.ofNat i) S = some (Int32.ofNat (kbest (kA pr kd pt cp w wt) (kB kd pt) m i b), x, y, q, S2) ∧ cS S S2
  | 0, i, j, b, S, h1, h0, e1, e2, e3, e4 => by
    obtain rfl : i = n + 1 := by omega
    refine ⟨kA pr kd pt cp w wt b, kB kd pt b, Int32.ofNat (n + 1), S, ?_, cS.rfl'⟩
    rw [show 0 + 1 + j = j + 1 by omega, f_X3_keep_L85, if_pos ((p_lt (by omega) (by omega)).mpr (by omega))]
    rfl
  | m + 1, i, j, b, S, h1, h0, e1, e2, e3, e4 => by
    have hS : ∀ b', ∃ x y q S2, f_X3_keep_L85 w (Int32.ofNat n) wt (k + 200) (m + 1 + j) (Int32.ofNat b') (kA pr kd pt cp w wt b') (kB kd pt b') (Int32.ofNat i + 1) ((kS S.1 35 (upd (S.1 35) 3 (f_X0_gain (pd kd pt i) (24 * f_X0_coldPoints kd)))), (kLS S.2 1 (v5 (S.2 1) (wv kd (pd kd pt i))))) = some (Int32.ofNat (kbest (kA pr kd pt cp w wt) (kB kd pt) m (i + 1) b'), x, y, q, S2) ∧ cS S S2 := fun b' => by
      obtain ⟨x, y, q, S2, g1, g2⟩ := c_keepL k pr kd pt cp w wt n hn m (i + 1) j b' ((kS S.1 35 (upd (S.1 35) 3 (f_X0_gain (pd kd pt i) (24 * f_X0_coldPoints kd)))), (kLS S.2 1 (v5 (S.2 1) (wv kd (pd kd pt i))))) (by omega) (by omega) e1 e2 e3 rfl
      rw [Int32.ofNat_add] at g1
      refine ⟨x, y, q, S2, g1, fun r h2 h3 => (g2 r h2 h3).trans ?_⟩
      show (if r = 35 then _ else S.1 r) = _
      rw [if_neg h3]
    have hl : ¬ (Int32.ofNat n < Int32.ofNat i) := fun z => by have := (p_lt (by omega) (by omega)).mp z; omega
    have hX : Int32.toInt64 cp * bsum pr (wv kd (pd kd pt i)) w - (Int32.toInt64 wt * Int32.toInt64 (Int32.ofNat i)) * sumv (wv kd (pd kd pt i)) = kA pr kd pt cp w wt i := rfl
    rw [show m + 1 + 1 + j = (m + 1 + j) + 1 by omega, f_X3_keep_L85, if_neg hl, c_weigh, p_bs, c_sumAll, p_bs, c_bsum, p_bs, p_bs, v5_sv, v5_bs, if_neg (p_ne0 h0 (by omega)), e1, e2, e3, e4, hX]
    rw [show sumv (wv kd (pd kd pt i)) = kB kd pt i from rfl, kbest]
    simp only [lg_cmp_le]
    by_cases h9 : kA pr kd pt cp w wt i * kB kd pt b ≤ kA pr kd pt cp w wt b * kB kd pt i
    · rw [if_pos h9, if_pos h9]
      exact hS b
    · rw [if_neg h9, if_neg h9]
      exact hS i
theorem m_keepL {A : Nat → Nat → Int32} {kd pt cp : Int32} (H : HM A kd pt cp) (k : Nat) (pr wt : Int32) {w : Int32} (hw : 0 ≤ w ∧ w < 3) (e7 : A 0 4 = pr) (hpos : ∀ d, d ≤ 20 → 0 < (kB kd pt d).toInt) (n : Nat) (hn : n ≤ 7) : ∀ (m i j b : Nat) (B : Nat → Nat → Int64), i + m = n + 1 → b < 21 → ∃ x y q B2, f_X4_keep_L69 w (Int32.ofNat n) wt (k + 200) (m + 1 + j) (Int32.ofNat b) (kA pr kd pt cp w wt b) (kB kd pt b) (Int32.ofNat i) (A, B) = some (Int32.ofNat (kbest (kA pr kd pt cp w wt) (kB kd pt) m i b), x, y, q, (A, B2))
  | 0, i, j, b, B, h1, hb => by
    obtain rfl : i = n + 1 := by omega
    refine ⟨kA pr kd pt cp w wt b, kB kd pt b, Int32.ofNat (n + 1), B, ?_⟩
    rw [show 0 + 1 + j = j + 1 by omega, f_X4_keep_L69, if_pos ((p_lt (by omega) (by omega)).mpr (by omega))]
    rfl
  | m + 1, i, j, b, B, h1, hb => by
    have hl : ¬ (Int32.ofNat n < Int32.ofNat i) := fun z => by have := (p_lt (by omega) (by omega)).mp z; omega
    obtain ⟨B2, g1, g2, g3, g4⟩ := m_lw1 (A := A) k B H.1 (pd kd pt i)
    rw [H.2.1] at g2
    rw [show m + 1 + 1 + j = (m + 1 + j) + 1 by omega, f_X4_keep_L69, if_neg hl]
    dsimp only
    rw [if_neg H.nb, if_neg H.nb, m_gain, H.2.1, H.2.2.1, m_cold H.2.2.2.2.1, pd_eq H.2.2.2.2.2 i (by omega), g1, p_bs, m_all1, p_bs, m_bsum1 k _ hw, p_bs]
    dsimp only
    rw [if_neg H.nb, p_bs, g2.a, g2.s, e7, H.2.2.2.1]
    have hv : bsum pr (wv kd (pd kd pt i)) w * Int32.toInt64 cp - sumv (wv kd (pd kd pt i)) * Int32.toInt64 wt * Int32.toInt64 (Int32.ofNat i) = kA pr kd pt cp w wt i := by
      unfold kA
      grind
    rw [hv, show sumv (wv kd (pd kd pt i)) = kB kd pt i from rfl, if_neg (show ¬ lg_cmp (kB kd pt b) 0 ≤ 0 from fun z => by
      have h3 := Int64.le_iff_toInt_le.mp ((lg_cmp_le _ _).mp z)
      have h4 := hpos b (by omega)
      have e5 : (0 : Int64).toInt = 0 := rfl
      omega), kbest]
    simp only [lg_cmp_gt]
    by_cases h9 : kA pr kd pt cp w wt i * kB kd pt b ≤ kA pr kd pt cp w wt b * kB kd pt i
    · rw [if_neg (Int64.not_lt.mpr h9), if_pos h9]
      have := m_keepL H k pr wt hw e7 hpos n hn m (i + 1) j b B2 (by omega) hb
      rw [Int32.ofNat_add] at this
      exact this
    · rw [if_pos (Int64.not_le.mp h9), if_neg h9]
      have := m_keepL H k pr wt hw e7 hpos n hn m (i + 1) j i B2 (by omega) (by omega)
      rw [Int32.ofNat_add] at this
      exact this
theorem o_keepB {S M : ST} (R : Rel S M) (k : Nat) {w p1 : Int32} (wt : Int32) (hw : 0 ≤ w ∧ w < 3) (hn : 0 ≤ p1 ∧ p1 ≤ 7) (hj : jIn (S.1 0 0) (S.1 0 1)) : O2
    ((f_X3_think S (k + 200)).bind fun v1 => (f_X3_keep_L85 w p1 wt (k + 200) (k + 200) 0 0 1 0 ((kS v1.1 35 (upd (upd (upd (upd (v1.1 35) 0 ((f_X0_fillFrom (v1.1 34 0) (v1.1 34 1) (v1.1 34 2) (v1.1 34 3)).1)) 1 ((f_X0_fillFrom (v1.1 34 0) (v1.1 34 1) (v1.1 34 2) (v1.1 34 3)).2.1)) 2 ((f_X0_fillFrom (v1.1 34 0) (v1.1 34 1) (v1.1 34 2) (v1.1 34 3)).2.2.1)) 3 ((f_X0_fillFrom (v1.1 34 0) (v1.1 34 1) (v1.1 34 2) (v1.1 34 3)).2.2.2))), v1.2)).bind fun v14 => some (v14.1, v14.2.2.2.2))
    ((f_X4_keep_L69 w p1 wt (k + 200) (k + 200) 0 0 0 0 M).bind fun v16 => some (v16.1, v16.2.2.2.2)) := by
  obtain ⟨S2, M2, h1, h2, T⟩ := think_both R hj k
  obtain ⟨n, hn8, rfl⟩ := p_ix (n := 8) (by decide) hn.1 (show p1 < 8 by have := hn.2; grind)
  have g := R.at hj
  have hkd : 0 ≤ S.1 5 (jj S) ∧ S.1 5 (jj S) < 6 := g.2.2.2.1
  have hpt : 0 ≤ S.1 8 (jj S) ∧ S.1 8 (jj S) ≤ 240 := g.2.2.2.2.2.2
  have T34 := T.2.2.2.2.2.1
  have Tpr := T.2.2.2.2.2.2.2.1
  have Tcs := T.2.1
  have H : HM M.1 (S.1 5 (jj S)) (S.1 8 (jj S)) (S.1 7 (jj S)) := R.hm hj
  rw [h1, p_bs]
  generalize hS : ((kS S2.1 35 _, S2.2) : ST) = S1
  have q1 : ∀ r, r ≠ 35 → S1.1 r = S2.1 r := fun r hr => by
    subst hS
    show (if r = 35 then _ else _) = _
    rw [if_neg hr]
  have q2 : S1.1 35 0 = S.1 5 (jj S) ∧ S1.1 35 3 = S.1 8 (jj S) := by
    subst hS
    exact ⟨T34.1, T34.2.2.2⟩
  clear hS
  have hc1 : cS S S1 := fun r h3 h4 => by rw [q1 r h4]; exact Tcs r h3 h4
  have hpos : ∀ d, d ≤ 20 → 0 < (kB (S.1 5 (jj S)) (S.1 8 (jj S)) d).toInt := fun d hd => wv_pos hkd (pd_in hpt d hd)
  have hl : ¬ (Int32.ofNat n < 0) := fun z => by have := (p_lt (b := 0) (by omega) (by omega)).mp z; omega
  -- the first day
  have hX : Int32.toInt64 (S.1 7 (jj S)) * bsum (S.1 0 3) (wv (S.1 5 (jj S)) (S.1 8 (jj S))) w - (Int32.toInt64 wt * Int32.toInt64 0) * sumv (wv (S.1 5 (jj S)) (S.1 8 (jj S))) = kA (S.1 0 3) (S.1 5 (jj S)) (S.1 8 (jj S)) (S.1 7 (jj S)) w wt 0 := rfl
  obtain ⟨x, y, q, S3, a1, a2⟩ := c_keepL k (S.1 0 3) (S.1 5 (jj S)) (S.1 8 (jj S)) (S.1 7 (jj S)) w wt n (by omega) n 1 (k + 198 - n) 0 ((kS S1.1 35 (upd (S1.1 35) 3 (f_X0_gain (S.1 8 (jj S)) (24 * f_X0_coldPoints (S.1 5 (jj S)))))), (kLS S1.2 1 (v5 (S1.2 1) (wv (S.1 5 (jj S)) (S.1 8 (jj S)))))) (by omega) (by decide) (by
      show S1.1 0 3 = _
      rw [hc1 0 (by decide) (by decide)]) (by
      show S1.1 34 2 = _
      rw [q1 34 (by decide)]
      exact T34.2.2.1) q2.1 rfl
  have hcl : f_X3_keep_L85 w (Int32.ofNat n) wt (k + 200) (k + 200) 0 0 1 0 S1 = some (Int32.ofNat (kbest (kA (S.1 0 3) (S.1 5 (jj S)) (S.1 8 (jj S)) (S.1 7 (jj S)) w wt) (kB (S.1 5 (jj S)) (S.1 8 (jj S))) n 1 0), x, y, q, S3) := by
    rw [show n + 1 + (k + 198 - n) = k + 199 by omega] at a1
    rw [← a1]
    conv => lhs; rw [show k + 200 = (k + 199) + 1 from rfl, f_X3_keep_L85]
    rw [if_neg hl, c_weigh, p_bs, c_sumAll, p_bs, c_bsum, p_bs, p_bs, v5_sv, v5_bs, if_pos rfl, q2.1, q2.2, hc1 0 (by decide) (by decide), q1 34 (by decide), T34.2.2.1, hX]
    rfl
  obtain ⟨A, B⟩ := M
  obtain ⟨B2, g1, g2, g3, g4⟩ := m_lw1 (A := A) k B H.1 (S.1 8 (jj S))
  have H2 := H.2.1
  dsimp only at H H2 g1 g2
  rw [H2] at g2
  have e7 : A 0 4 = S.1 0 3 := R.k.1.2.2.2.1.symm
  obtain ⟨x2, y2, r2, B3, b1⟩ := m_keepL H k (S.1 0 3) wt hw e7 hpos n (by omega) n 1 (k + 198 - n) 0 B2 (by omega) (by decide)
  have hml : f_X4_keep_L69 w (Int32.ofNat n) wt (k + 200) (k + 200) 0 0 0 0 (A, B) = some (Int32.ofNat (kbest (kA (S.1 0 3) (S.1 5 (jj S)) (S.1 8 (jj S)) (S.1 7 (jj S)) w wt) (kB (S.1 5 (jj S)) (S.1 8 (jj S))) n 1 0), x2, y2, r2, (A, B3)) := by
    rw [show n + 1 + (k + 198 - n) = k + 199 by omega] at b1
    rw [← b1]
    have hpd := pd_eq (kd := S.1 5 (jj S)) hpt 0 (by decide)
    rw [pd] at hpd
    have hpd' : f_X0_gain (S.1 8 (jj S)) (24 * 0 * f_X0_coldPoints (S.1 5 (jj S))) = S.1 8 (jj S) := hpd
    conv => lhs; rw [show k + 200 = (k + 199) + 1 from rfl, f_X4_keep_L69]
    rw [if_neg hl]
    dsimp only
    rw [if_neg H.nb, if_neg H.nb, m_gain, H.2.1, H.2.2.1, m_cold hkd, hpd', g1, p_bs, m_all1, p_bs, m_bsum1 k _ hw, p_bs]
    dsimp only
    rw [if_neg H.nb, p_bs, if_pos (show lg_cmp 0 0 ≤ 0 by decide), g2.a, g2.s, e7, H.2.2.2.1]
    have hv : bsum (S.1 0 3) (wv (S.1 5 (jj S)) (S.1 8 (jj S))) w * Int32.toInt64 (S.1 7 (jj S)) - sumv (wv (S.1 5 (jj S)) (S.1 8 (jj S))) * Int32.toInt64 wt * Int32.toInt64 0 = kA (S.1 0 3) (S.1 5 (jj S)) (S.1 8 (jj S)) (S.1 7 (jj S)) w wt 0 := by
      rw [← hX]
      grind
    rw [hv]
    rfl
  rw [hcl, hml, p_bs, p_bs]
  refine ⟨_, S3, (A, B3), rfl, rfl, R.frame (fun r h3 h4 => (a2 r h3 h4).trans ?_) (fun _ _ => rfl)⟩
  show (if r = 35 then _ else S1.1 r) = _
  rw [if_neg h4]
  exact hc1 r h3 h4
theorem o_keep {S M : ST} (R : Rel S M) (k : Nat) (w p1 wt : Int32) : O2 (f_X3_keep S w p1 wt (k + 200)) (f_X4_keep M w p1 wt (k + 200)) := by
  unfold f_X3_keep f_X4_keep
  rw [m_notBest R]
  rcases rih_cases S (f_X3_isOneOf w 3) true with hz | ⟨hz, h0, -, hj⟩
  · rw [if_neg hz, if_neg hz]
    exact ref_no R (rih_R hz) k
  rw [if_pos hz, if_pos hz]
  by_cases h1 : p1 < 0
  · rw [if_pos h1, if_pos h1]
    exact ref_no R (Or.inr (Or.inr (Or.inr (Or.inl rfl)))) k
  rw [if_neg h1, if_neg h1]
  by_cases h2 : 0 ≤ wt
  · rw [if_pos h2, if_pos h2]
    by_cases h3 : 7 < p1
    · rw [if_pos h3, if_pos h3]
      exact ref_no R (Or.inr (Or.inr (Or.inr (Or.inr rfl)))) k
    rw [if_neg h3, if_neg h3]
    by_cases h4 : wt ≤ 9
    · rw [if_pos h4, if_pos h4]
      exact o_keepB R k wt (one_iff.mp h0) (by constructor <;> grind) hj
    · rw [if_neg h4, if_neg h4]
      exact ref_no R (Or.inr (Or.inr (Or.inr (Or.inr rfl)))) k
  · rw [if_neg h2, if_neg h2]
    exact ref_no R (Or.inr (Or.inr (Or.inr (Or.inl rfl)))) k
