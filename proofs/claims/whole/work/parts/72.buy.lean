/-! buy -/
def lcv (S : ST) (k : Nat) (n pp : Int32) (q : Nat) : Int32 := (f_X3_larderCosts S n (Int32.ofNat (q % 10)) (Int32.ofNat (q / 10)) pp (k + 200)).getD 0
def bstp (L : Nat → Int32) (s : Int32 × Int32) (q : Nat) : Int32 × Int32 := if s.2 ≤ L q then s else (Int32.ofNat q, L q)
def bfo (L : Nat → Int32) : Nat → Nat → Int32 × Int32 → Int32 × Int32
  | 0, _, s => s
  | m + 1, q, s => bfo L m (q + 1) (if 1 ≤ q % 10 ∧ q % 10 ≤ 7 then bstp L s q else s)
theorem bfo_add (L : Nat → Int32) (b : Nat) : ∀ a q s, bfo L (a + b) q s = bfo L b (q + a) (bfo L a q s)
  | 0, q, s => by rw [Nat.zero_add, Nat.add_zero, bfo]
  | a + 1, q, s => by
    rw [show a + 1 + b = (a + b) + 1 by omega, bfo, bfo, bfo_add L b a (q + 1), show q + 1 + a = q + (a + 1) by omega]
theorem c_lcv {S M : ST} (R : Rel S M) (k : Nat) {n : Int32} (hn : 0 ≤ n ∧ n ≤ 30) (pp : Int32) (q : Nat) (hq : 1 ≤ q % 10 ∧ q % 10 ≤ 7) : f_X3_larderCosts S n (Int32.ofNat (q % 10)) (Int32.ofNat (q / 10)) pp (k + 200) = some (lcv S k n pp q) ∧ ∀ M2, mS M M2 → ∃ M3, f_X4_larderBy M2 n (Int32.ofNat (q % 10)) (Int32.ofNat (q / 10)) pp (k + 200) = some (lcv S k n pp q, M3) ∧ mS M M3 := by
  obtain ⟨v, h1, h2⟩ := both_lard R k hn (kk := Int32.ofNat (q % 10)) ((p_lt (a := 0) (by omega) (by omega)).mpr (by omega)) (Int32.ofNat (q / 10)) pp
  have e : lcv S k n pp q = v := by
    unfold lcv
    rw [h1]
    rfl
  rw [e]
  exact ⟨h1, h2⟩
theorem c_buyI {S M : ST} (R : Rel S M) (k : Nat) {n : Int32} (hn : 0 ≤ n ∧ n ≤ 30) (pp : Int32) (c : Nat) (hc : c < 10) : ∀ (m i j : Nat) (s : Int32 × Int32), i + m = 8 → 1 ≤ i → ∃ q, f_X3_buy_L77 n pp (Int32.ofNat c) S (k + 200) (m + 1 + j) s.1 s.2 (Int32.ofNat i) = some ((bfo (lcv S k n pp) m (10 * c + i) s).1, (bfo (lcv S k n pp) m (10 * c + i) s).2, q)
  | 0, i, j, s, h1, h2 => by
    obtain rfl : i = 8 := by omega
    refine ⟨Int32.ofNat 8, ?_⟩
    rw [show 0 + 1 + j = j + 1 by omega, f_X3_buy_L77, if_pos (by decide)]
    rfl
  | m + 1, i, j, s, h1, h2 => by
    have hq : (10 * c + i) % 10 = i ∧ (10 * c + i) / 10 = c := by omega
    have hl := (c_lcv R k hn pp (10 * c + i) (by omega)).1
    rw [hq.1, hq.2] at hl
    rw [show m + 1 + 1 + j = (m + 1 + j) + 1 by omega, f_X3_buy_L77, if_neg (fun z => by have := (p_lt (a := 7) (by omega) (by omega)).mp z; omega), hl, p_bs, bfo, if_pos (show 1 ≤ (10 * c + i) % 10 ∧ (10 * c + i) % 10 ≤ 7 by omega), bstp]
    have e10 : (10 : Int32) * Int32.ofNat c + Int32.ofNat i = Int32.ofNat (10 * c + i) := by
      rw [Int32.ofNat_add, Int32.ofNat_mul]
      rfl
    by_cases h : s.2 ≤ lcv S k n pp (10 * c + i)
    · rw [if_pos h, if_pos h]
      obtain ⟨q, g⟩ := c_buyI R k hn pp c hc m (i + 1) j s (by omega) (by omega)
      rw [Int32.ofNat_add] at g
      exact ⟨q, g⟩
    · rw [if_neg h, if_neg h, e10]
      obtain ⟨q, g⟩ := c_buyI R k hn pp c hc m (i + 1) j (Int32.ofNat (10 * c + i), lcv S k n pp (10 * c + i)) (by omega) (by omega)
      rw [show Int32.ofNat (i + 1) = Int32.ofNat i + 1 from Int32.ofNat_add i 1] at g
      exact ⟨q, g⟩
theorem bfo_3 (L : Nat → Int32) (c : Nat) (s : Int32 × Int32) : bfo L 10 (10 * c + 1) s = bfo L 7 (10 * c + 1) s := by
  rw [show 10 = 7 + 3 from rfl, bfo_add, bfo, bfo, bfo, bfo]
  rw [if_neg (by omega), if_neg (by omega), if_neg (by omega)]
theorem c_buyO {S M : ST} (R : Rel S M) (k : Nat) {n : Int32} (hn : 0 ≤ n ∧ n ≤ 30) (pp : Int32) : ∀ (m c j : Nat) (s : Int32 × Int32), c + m = 10 → ∃ x q, f_X3_buy_L67 n pp S (k + 200) (m + 1 + j) s.1 s.2 (Int32.ofNat c) = some ((bfo (lcv S k n pp) (10 * m) (10 * c + 1) s).1, x, q)
  | 0, c, j, s, h1 => by
    obtain rfl : c = 10 := by omega
    refine ⟨s.2, Int32.ofNat 10, ?_⟩
    rw [show 0 + 1 + j = j + 1 by omega, f_X3_buy_L67, if_pos (by decide)]
    rfl
  | m + 1, c, j, s, h1 => by
    obtain ⟨q, g⟩ := c_buyI R k hn pp c (by omega) 7 1 (k + 192) s (by decide) (by decide)
    rw [show 7 + 1 + (k + 192) = k + 200 by omega] at g
    have g' : f_X3_buy_L77 n pp (Int32.ofNat c) S (k + 200) (k + 200) s.1 s.2 1 = _ := g
    obtain ⟨x, q2, g2⟩ := c_buyO R k hn pp m (c + 1) j (bfo (lcv S k n pp) 7 (10 * c + 1) s) (by omega)
    refine ⟨x, q2, ?_⟩
    rw [show m + 1 + 1 + j = (m + 1 + j) + 1 by omega, f_X3_buy_L67, if_neg (fun z => by have := (p_lt (a := 9) (by omega) (by omega)).mp z; omega), g', p_bs]
    rw [show 10 * (m + 1) = 10 + 10 * m by omega, bfo_add, bfo_3, show 10 * c + 1 + 10 = 10 * (c + 1) + 1 by omega, ← g2, Int32.ofNat_add]
    rfl
theorem d98 : ∀ i : Fin 98, Int32.ofNat i.1 - Int32.ofNat i.1 / 10 * 10 = Int32.ofNat (i.1 % 10) ∧ Int32.ofNat i.1 / 10 = Int32.ofNat (i.1 / 10) := by decide +kernel
theorem m_buyL {S M : ST} (R : Rel S M) (k : Nat) {n : Int32} (hn : 0 ≤ n ∧ n ≤ 30) (pp : Int32) : ∀ (m i j : Nat) (s : Int32 × Int32) (M2 : ST), i + m = 98 → mS M M2 → ∃ x q M3, f_X4_buy_L75 n pp (k + 200) (m + 1 + j) s.1 s.2 (Int32.ofNat i) M2 = some ((bfo (lcv S k n pp) m i s).1, x, q, M3) ∧ mS M M3
  | 0, i, j, s, M2, h1, h2 => by
    obtain rfl : i = 98 := by omega
    refine ⟨s.2, Int32.ofNat 98, M2, ?_, h2⟩
    rw [show 0 + 1 + j = j + 1 by omega, f_X4_buy_L75, if_pos (by decide)]
    rfl
  | m + 1, i, j, s, M2, h1, h2 => by
    have d := d98 ⟨i, by omega⟩
    rw [show m + 1 + 1 + j = (m + 1 + j) + 1 by omega, f_X4_buy_L75, if_neg (fun z => by have := (p_le (a := 98) (by omega) (by omega)).mp z; omega), bfo, d.2]
    have d1 : Int32.ofNat i - Int32.ofNat (i / 10) * 10 = Int32.ofNat (i % 10) := by rw [← d.2]; exact d.1
    rw [d1]
    by_cases hq : 1 ≤ i % 10 ∧ i % 10 ≤ 7
    · have hin : (1 : Int32) ≤ Int32.ofNat (i % 10) ∧ Int32.ofNat (i % 10) ≤ 7 := ⟨(p_le (a := 1) (by omega) (by omega)).mpr hq.1, (p_le (b := 7) (by omega) (by omega)).mpr hq.2⟩
      rw [if_neg (fun z => (m_isIn _ 1 7).mp z hin), if_pos hq]
      have hl := (c_lcv R k hn pp i hq).2
      obtain ⟨M3, a1, a2⟩ := hl M2 h2
      obtain ⟨M4, b1, b2⟩ := hl M3 a2
      rw [a1, p_bs, bstp]
      by_cases h : s.2 ≤ lcv S k n pp i
      · rw [if_neg (show ¬ lcv S k n pp i < s.2 by grind), if_pos h]
        obtain ⟨x, q, M5, g, g2⟩ := m_buyL R k hn pp m (i + 1) j s M3 (by omega) a2
        rw [Int32.ofNat_add] at g
        exact ⟨x, q, M5, g, g2⟩
      · rw [if_pos (show lcv S k n pp i < s.2 by grind), if_neg h, b1, p_bs]
        obtain ⟨x, q, M5, g, g2⟩ := m_buyL R k hn pp m (i + 1) j (Int32.ofNat i, lcv S k n pp i) M4 (by omega) b2
        rw [Int32.ofNat_add] at g
        exact ⟨x, q, M5, g, g2⟩
    · have hin : ¬ ((1 : Int32) ≤ Int32.ofNat (i % 10) ∧ Int32.ofNat (i % 10) ≤ 7) := fun z => hq ⟨(p_le (a := 1) (by omega) (by omega)).mp z.1, (p_le (b := 7) (by omega) (by omega)).mp z.2⟩
      rw [if_pos ((m_isIn _ 1 7).mpr hin), if_neg hq]
      obtain ⟨x, q, M5, g, g2⟩ := m_buyL R k hn pp m (i + 1) j s M2 (by omega) h2
      rw [Int32.ofNat_add] at g
      exact ⟨x, q, M5, g, g2⟩
theorem bfo_fin (L : Nat → Int32) : bfo L 90 11 (11, L 11) = bfo L 86 12 (11, L 11) := by
  rw [show 90 = 1 + (86 + 3) from rfl, bfo_add, bfo_add]
  have e1 : bfo L 1 11 (11, L 11) = (11, L 11) := by
    rw [bfo, bfo, if_pos (by decide), bstp, if_pos (by grind)]
  rw [e1]
  show bfo L 3 98 (bfo L 86 12 (11, L 11)) = _
  rw [bfo, bfo, bfo, bfo, if_neg (by decide), if_neg (by decide), if_neg (by decide)]
theorem o_buy {S M : ST} (R : Rel S M) (k : Nat) (n pp : Int32) : O2 (f_X3_buy S n pp (k + 200)) (f_X4_buy M n pp (k + 200)) := by
  unfold f_X3_buy f_X4_buy
  have low := ref_no R (Or.inr (Or.inr (Or.inr (Or.inl rfl)))) k (r := -4)
  have high := ref_no R (Or.inr (Or.inr (Or.inr (Or.inr rfl)))) k (r := -6)
  by_cases h1 : n < 1
  · rw [if_pos h1, if_pos h1]; exact low
  rw [if_neg h1, if_neg h1]
  by_cases h4 : 0 ≤ pp
  · rw [if_pos h4, if_pos h4]
    by_cases h5 : 30 < n
    · rw [if_pos h5, if_pos h5]; exact high
    rw [if_neg h5, if_neg h5]
    by_cases h8 : pp ≤ 9
    · rw [if_pos h8, if_pos h8, show M.1 0 11 = S.1 30 2 from R.2.2.2.2.1.1.symm]
      by_cases h9 : S.1 30 2 = 7
      · rw [if_pos h9, if_pos h9]
        have hn : 0 ≤ n ∧ n ≤ 30 := by constructor <;> grind
        have hl := c_lcv R k hn pp 11 (by decide)
        have hl1 : f_X3_larderCosts S n 1 1 pp (k + 200) = some (lcv S k n pp 11) := hl.1
        obtain ⟨M3, a3, a4⟩ := hl.2 M mS.rfl'
        have a3' : f_X4_larderBy M n 1 1 pp (k + 200) = some (lcv S k n pp 11, M3) := a3
        obtain ⟨x, q, b1⟩ := c_buyO R k hn pp 9 1 (k + 190) (11, lcv S k n pp 11) (by decide)
        obtain ⟨x2, q2, M4, d1, d2⟩ := m_buyL R k hn pp 86 12 (k + 113) (11, lcv S k n pp 11) M3 (by decide) a4
        rw [show 9 + 1 + (k + 190) = k + 200 by omega] at b1
        rw [show 86 + 1 + (k + 113) = k + 200 by omega] at d1
        have b1' : f_X3_buy_L67 n pp S (k + 200) (k + 200) 11 (lcv S k n pp 11) 1 = _ := b1
        have d1' : f_X4_buy_L75 n pp (k + 200) (k + 200) 11 (lcv S k n pp 11) 12 M3 = _ := d1
        rw [hl1, p_bs, b1', p_bs, a3', p_bs, d1', p_bs]
        refine ⟨_, S, M4, rfl, ?_, R.frame cS.rfl' d2⟩
        rw [← bfo_fin]
      · rw [if_neg h9, if_neg h9]
        exact ref_no R (Or.inr (Or.inr (Or.inl rfl))) k
    · rw [if_neg h8, if_neg h8]; exact high
  · rw [if_neg h4, if_neg h4]; exact low
