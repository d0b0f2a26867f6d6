/-! what is thought of the one in hand: class and reference -/
def tvn (kd pt : Int32) (T O : Nat → Int32) : Nat → Nat → Int64
  | 0 => wv kd pt
  | n + 1 => nar (tvn kd pt T O n) kd (T n) (O n)
theorem tvn_congr {kd pt : Int32} {T O T2 O2 : Nat → Int32} : ∀ n, (∀ i, i < n → T i = T2 i ∧ O i = O2 i) → tvn kd pt T O n = tvn kd pt T2 O2 n
  | 0, _ => rfl
  | n + 1, h => by
    rw [tvn, tvn, tvn_congr n (fun i hi => h i (by omega)), (h n (by omega)).1, (h n (by omega)).2]
theorem p_at {F : Nat → Int32} {N i : Nat} (hN : N < 2147483648) (hi : i < N) : f_X3_at F N (Int32.ofNat i) = F i := by
  unfold f_X3_at
  have h1 : ¬ Int32.ofNat i < 0 := fun z => by
    have := (p_lt (a := i) (b := 0) (by omega) (by omega)).mp z
    omega
  rw [if_neg h1, if_neg (fun z => by have := (p_le hN (by omega)).mp z; omega), p_tn (by omega)]
theorem c_thinkL (k : Nat) (kd pt : Int32) (c : Nat) (hc : c ≤ 8) : ∀ (m i j : Nat) (S : ST), i + m = c → S.1 0 2 = Int32.ofNat c → S.1 34 0 = kd → E5 (S.2 0) (tvn kd pt (S.1 1) (S.1 2) i) → ∃ q S2, f_X3_think_L33 (k + 200) (m + 1 + j) (Int32.ofNat i) S = some (q, S2) ∧ S2.1 = S.1 ∧ E5 (S2.2 0) (tvn kd pt (S.1 1) (S.1 2) c)
  | 0, i, j, S, h1, h2, h3, h4 => by
    obtain rfl : i = c := by omega
    refine ⟨Int32.ofNat i, S, ?_, rfl, h4⟩
    rw [show 0 + 1 + j = j + 1 by omega, f_X3_think_L33, h2, if_pos (by grind)]
  | m + 1, i, j, S, h1, h2, h3, h4 => by
    rw [show m + 1 + 1 + j = (m + 1 + j) + 1 by omega, f_X3_think_L33, h2, if_neg (fun z => by have := (p_le (by omega) (by omega)).mp z; omega), c_narrow_s, p_at (by decide) (by omega), p_at (by decide) (by omega)]
    simp only [Option.bind_some]
    have h5 := c_thinkL k kd pt c hc m (i + 1) j (S.1, kLS S.2 0 (v5 (S.2 0) (nar (S.2 0) (S.1 34 0) (S.1 1 i) (S.1 2 i)))) (by omega) h2 h3 (by
      rw [h3]
      exact E5.trans E5.v (h4.nar kd _ _))
    rw [Int32.ofNat_add] at h5
    exact h5
theorem c_think (k : Nat) {S : ST} (hin : jIn (S.1 0 0) (S.1 0 1)) (hs : 0 ≤ S.1 0 2 ∧ S.1 0 2 ≤ 8) : ∃ S2, f_X3_think S (k + 200) = some S2 ∧ cS S S2 ∧
    E5 (S2.2 0) (tvn (S.1 5 (Int32.toNatClampNeg (S.1 0 1))) (S.1 8 (Int32.toNatClampNeg (S.1 0 1))) (S.1 1) (S.1 2) (Int32.toNatClampNeg (S.1 0 2))) ∧
    S2.1 34 0 = S.1 5 (Int32.toNatClampNeg (S.1 0 1)) ∧ S2.1 34 1 = S.1 6 (Int32.toNatClampNeg (S.1 0 1)) ∧ S2.1 34 2 = S.1 7 (Int32.toNatClampNeg (S.1 0 1)) ∧ S2.1 34 3 = S.1 8 (Int32.toNatClampNeg (S.1 0 1)) := by
  obtain ⟨c, hc, e⟩ := p_ix (n := 9) (by decide) hs.1 (show S.1 0 2 < 9 by grind)
  unfold f_X3_think
  rw [if_pos hin, c_weigh]
  simp only [Option.bind_some]
  generalize hS : ((kS S.1 34 _, kLS S.2 0 _) : ST) = S1
  have g1 : ∀ r, r ≠ 34 → S1.1 r = S.1 r := fun r hr => by
    subst hS
    show (if r = 34 then _ else _) = _
    rw [if_neg hr]
  have g2 : S1.2 0 = v5 (S.2 0) (wv (S.1 5 (Int32.toNatClampNeg (S.1 0 1))) (S.1 8 (Int32.toNatClampNeg (S.1 0 1)))) := by subst hS; rfl
  have g3 : S1.1 34 0 = S.1 5 (Int32.toNatClampNeg (S.1 0 1)) ∧ S1.1 34 1 = S.1 6 (Int32.toNatClampNeg (S.1 0 1)) ∧ S1.1 34 2 = S.1 7 (Int32.toNatClampNeg (S.1 0 1)) ∧ S1.1 34 3 = S.1 8 (Int32.toNatClampNeg (S.1 0 1)) := by subst hS; exact ⟨rfl, rfl, rfl, rfl⟩
  clear hS
  obtain ⟨q, S2, h1, h2, h3⟩ := c_thinkL k (S.1 5 (Int32.toNatClampNeg (S.1 0 1))) (S.1 8 (Int32.toNatClampNeg (S.1 0 1))) c (by omega) c 0 (k + 199 - c) S1 (by omega) (by rw [g1 0 (by decide)]; exact e) g3.1 (by rw [g2]; exact E5.v)
  rw [show c + 1 + (k + 199 - c) = k + 200 by omega] at h1
  refine ⟨S2, ?_, ?_, ?_, ?_⟩
  · rw [show (0 : Int32) = Int32.ofNat 0 from rfl, h1]
    rfl
  · intro r h4 h5
    rw [h2, g1 r h4]
  · rw [e, p_tn (by omega), ← g1 1 (by decide), ← g1 2 (by decide)]
    exact h3
  · rw [h2]
    exact g3
theorem m_thinkI {A : Nat → Nat → Int32} {kd pt cp : Int32} (h : HM A kd pt cp) (k : Nat) (s : Nat) (hs : s < 5) (c : Nat) (hc : c ≤ 8) (h2 : A 0 2 = Int32.ofNat c) (hT : ∀ i, i < 8 → 0 ≤ A 7 i ∧ A 7 i < 4) : ∀ (m i j : Nat) (B : Nat → Nat → Int64), i + m = c → B 0 s = tvn kd pt (A 7) (A 8) i s → ∃ q B2, f_X4_findThought_L34 (Int32.ofNat s) (k + 200) (m + 1 + j) (Int32.ofNat i) (A, B) = some (q, (A, B2)) ∧ B2 0 s = tvn kd pt (A 7) (A 8) c s ∧ ∀ z, z ≠ s → B2 0 z = B 0 z
  | 0, i, j, B, h1, h4 => by
    obtain rfl : i = c := by omega
    refine ⟨Int32.ofNat i, B, ?_, h4, fun z _ => rfl⟩
    rw [show 0 + 1 + j = j + 1 by omega, f_X4_findThought_L34]
    dsimp only
    rw [if_pos (show A 0 2 ≤ Int32.ofNat i by rw [h2]; grind)]
  | m + 1, i, j, B, h1, h4 => by
    have hi : ¬ (Int32.ofNat i < 0 ∨ 8 ≤ Int32.toNatClampNeg (Int32.ofNat i)) := p_nb (n := 8) (by decide) (by rw [show (0 : Int32) = Int32.ofNat 0 from rfl, p_le (by omega) (by omega)]; omega) ((p_lt (by omega) (by omega)).mpr (by omega))
    have h0s : (0 : Int32) ≤ Int32.ofNat s := by rw [show (0 : Int32) = Int32.ofNat 0 from rfl, p_le (by omega) (by omega)]; omega
    have hs5 : Int32.ofNat s < 5 := (p_lt (b := 5) (by omega) (by omega)).mpr hs
    have hs' : ¬ (Int32.ofNat s < 0 ∨ 5 ≤ Int32.toNatClampNeg (Int32.ofNat s)) := p_nb (n := 5) (by decide) h0s hs5
    rw [show m + 1 + 1 + j = (m + 1 + j) + 1 by omega, f_X4_findThought_L34]
    dsimp only
    rw [if_neg (show ¬ A 0 2 ≤ Int32.ofNat i from fun z => by rw [h2] at z; have := (p_le (by omega) (by omega)).mp z; omega), if_neg hi, p_tn (by omega), m_saysOff h k B (hT i (by omega)) ⟨h0s, hs5⟩]
    simp only [Option.bind_some]
    have hi2 : ¬ (Int32.ofNat i < 0 ∨ 8 ≤ i) := by rw [p_tn (by omega)] at hi; exact hi
    have hs2 : ¬ (Int32.ofNat s < 0 ∨ 5 ≤ s) := by rw [p_tn (by omega)] at hs'; exact hs'
    simp only [if_neg hs', if_neg hi2, if_neg hs2, p_tn (show s < 2147483648 by omega)]
    have key : ∀ v : Int64, v = tvn kd pt (A 7) (A 8) (i + 1) s → ∃ q B2, f_X4_findThought_L34 (Int32.ofNat s) (k + 200) (m + 1 + j) (Int32.ofNat i + 1) (A, kLS B 0 (vp_updL (B 0) s v)) = some (q, (A, B2)) ∧ B2 0 s = tvn kd pt (A 7) (A 8) c s ∧ ∀ z, z ≠ s → B2 0 z = B 0 z := by
      intro v hv
      obtain ⟨q, B2, g1, g2, g3⟩ := m_thinkI h k s hs c hc h2 hT m (i + 1) j (kLS B 0 (vp_updL (B 0) s v)) (by omega) (by
        show (if s = s then v else _) = _
        rw [if_pos rfl, hv])
      rw [Int32.ofNat_add] at g1
      refine ⟨q, B2, g1, g2, fun z hz => ?_⟩
      rw [g3 z hz]
      show (if z = s then v else B 0 z) = _
      rw [if_neg hz]
    by_cases ho : A 8 i = 1
    · rw [if_pos ho]
      apply key
      rw [tvn, nar, tn, if_pos ho, h4]
    · rw [if_neg ho]
      apply key
      rw [tvn, nar, tn, if_neg ho, h4]
theorem m_thinkO {A : Nat → Nat → Int32} {kd pt cp : Int32} (h : HM A kd pt cp) (k : Nat) (c : Nat) (hc : c ≤ 8) (h2 : A 0 2 = Int32.ofNat c) (hT : ∀ i, i < 8 → 0 ≤ A 7 i ∧ A 7 i < 4) : ∀ (m s j : Nat) (B : Nat → Nat → Int64), s + m = 5 → (∀ z, z < s → B 0 z = tvn kd pt (A 7) (A 8) c z) → ∃ q B2, f_X4_findThought_L2 (k + 200) (m + 1 + j) (Int32.ofNat s) (A, B) = some (q, (A, B2)) ∧ E5 (B2 0) (tvn kd pt (A 7) (A 8) c)
  | 0, s, j, B, h1, h4 => by
    obtain rfl : s = 5 := by omega
    refine ⟨Int32.ofNat 5, B, ?_, h4⟩
    rw [show 0 + 1 + j = j + 1 by omega, f_X4_findThought_L2, if_pos (by decide)]
  | m + 1, s, j, B, h1, h4 => by
    have h0s : (0 : Int32) ≤ Int32.ofNat s := by rw [show (0 : Int32) = Int32.ofNat 0 from rfl, p_le (by omega) (by omega)]; omega
    have hs5 : Int32.ofNat s < 5 := (p_lt (b := 5) (by omega) (by omega)).mpr (by omega)
    have hs' : ¬ (Int32.ofNat s < 0 ∨ 5 ≤ Int32.toNatClampNeg (Int32.ofNat s)) := p_nb (n := 5) (by decide) h0s hs5
    rw [show m + 1 + 1 + j = (m + 1 + j) + 1 by omega, f_X4_findThought_L2]
    dsimp only
    rw [if_neg (fun z => by have := (p_le (a := 5) (by omega) (by omega)).mp z; omega), if_neg h.nb, m_weightAt A B k h.1]
    simp only [Option.bind_some]
    rw [if_neg hs', p_tn (by omega)]
    obtain ⟨q, B2, g1, g2, g3⟩ := m_thinkI h k s (by omega) c hc h2 hT c 0 (k + 199 - c) (kLS B 0 (vp_updL (B 0) s (Int32.toInt64 (f_X0_weightOf (A 2 (Int32.toNatClampNeg (A 0 1))) (A 5 (Int32.toNatClampNeg (A 0 1))) (Int32.ofNat s))))) (by omega) (by
      show (if s = s then _ else _) = _
      rw [if_pos rfl, h.2.1, h.2.2.1]
      rfl)
    rw [show c + 1 + (k + 199 - c) = k + 200 by omega, show Int32.ofNat 0 = 0 from rfl] at g1
    rw [g1]
    simp only [Option.bind_some]
    obtain ⟨q2, B3, g4, g5⟩ := m_thinkO h k c hc h2 hT m (s + 1) j B2 (by omega) (fun z hz => by
      by_cases hz2 : z = s
      · subst hz2
        exact g2
      · rw [g3 z hz2]
        show (if z = s then _ else B 0 z) = _
        rw [if_neg hz2]
        exact h4 z (by omega))
    rw [Int32.ofNat_add] at g4
    exact ⟨q2, B3, g4, g5⟩
theorem m_think {A : Nat → Nat → Int32} {kd pt cp : Int32} (h : HM A kd pt cp) (k : Nat) (c : Nat) (hc : c ≤ 8) (h2 : A 0 2 = Int32.ofNat c) (hT : ∀ i, i < 8 → 0 ≤ A 7 i ∧ A 7 i < 4) (B : Nat → Nat → Int64) : ∃ B2, f_X4_findThought (A, B) (k + 200) = some (A, B2) ∧ E5 (B2 0) (tvn kd pt (A 7) (A 8) c) := by
  obtain ⟨q, B2, h3, h4⟩ := m_thinkO h k c hc h2 hT 5 0 (k + 194) B (by omega) (fun z hz => by omega)
  refine ⟨B2, ?_, h4⟩
  unfold f_X4_findThought
  rw [show (0 : Int32) = Int32.ofNat 0 from rfl, show k + 200 = 5 + 1 + (k + 194) by omega]
  rw [show 5 + 1 + (k + 194) = k + 200 by omega] at h3 ⊢
  rw [h3]
  rfl
