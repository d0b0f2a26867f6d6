/-! which look is best: one, two, the second free -/
def Cc (S : ST) (A : Nat → Nat → Int32) : Prop := A 34 0 = S.1 5 (jj S) ∧ A 34 2 = S.1 7 (jj S) ∧ A 0 3 = S.1 0 3 ∧ ∀ t : Int32, (0 ≤ t ∧ t < 4) → f_X1_costOf (A 3) t = S.1 3 (Int32.toNatClampNeg t)
def Cm (S : ST) (A : Nat → Nat → Int32) : Prop := HM A (S.1 5 (jj S)) (S.1 8 (jj S)) (S.1 7 (jj S)) ∧ A 0 4 = S.1 0 3 ∧ ∀ t : Int32, (0 ≤ t ∧ t < 4) → A 6 (Int32.toNatClampNeg t) = S.1 3 (Int32.toNatClampNeg t)
/-- the numbers are in their bounds -/
def Cn (S : ST) : Prop := (0 ≤ S.1 7 (jj S) ∧ S.1 7 (jj S) ≤ 9) ∧ (0 ≤ S.1 5 (jj S) ∧ S.1 5 (jj S) < 6) ∧ (0 ≤ S.1 0 3 ∧ S.1 0 3 ≤ 9) ∧ ∀ t : Int32, (0 ≤ t ∧ t < 4) → 0 ≤ S.1 3 (Int32.toNatClampNeg t) ∧ S.1 3 (Int32.toNatClampNeg t) ≤ 9
theorem Tk.cc {S M S2 M2 : ST} (T : Tk S M S2 M2) (R : Rel S M) (hj : jIn (S.1 0 0) (S.1 0 1)) : Cc S S2.1 ∧ Cm S M2.1 ∧ Cn S := by
  have X := T.cx R hj
  exact ⟨⟨T.2.2.2.2.2.1.1, T.2.2.2.2.2.1.2.2.1, T.2.2.2.2.2.2.2.1, fun t ht => (X.1 t ht).1⟩, ⟨T.2.2.2.2.2.2.1, T.2.2.2.2.2.2.2.2, fun t ht => (X.1 t ht).2.1⟩, X.2.1, X.2.2.1, X.2.2.2, fun t ht => (X.1 t ht).2.2⟩
theorem E5.g {F G : Nat → Int64} (h : E5 F G) (S : ST) (t w : Int32) : gT2 S F t w = gT2 S G t w := h.t _ _ _ _ _ _
theorem c_g0 {S : ST} {A : Nat → Nat → Int32} (C : Cc S A) (k : Nat) (B : Nat → Nat → Int64) {t : Int32} (ht : 0 ≤ t ∧ t < 4) (w : Int32) : ∃ B2, f_X3_testWorth_0 (A, B) t w (k + 200) = some (gT2 S (B 0) t w, (A, B2)) ∧ B2 0 = B 0 ∧ B2 1 = B 1 := by
  obtain ⟨B2, h1, h2⟩ := c_tw0 k A B t w
  rw [C.1, C.2.1, C.2.2.1, C.2.2.2 t ht] at h1
  exact ⟨B2, h1, h2⟩
theorem c_g1 {S : ST} {A : Nat → Nat → Int32} (C : Cc S A) (k : Nat) (B : Nat → Nat → Int64) {t : Int32} (ht : 0 ≤ t ∧ t < 4) (w : Int32) : ∃ B2, f_X3_testWorth_1 (A, B) t w (k + 200) = some (gT2 S (B 1) t w, (A, B2)) ∧ B2 0 = B 0 ∧ B2 1 = B 1 := by
  obtain ⟨B2, h1, h2⟩ := c_tw1 k A B t w
  rw [C.1, C.2.1, C.2.2.1, C.2.2.2 t ht] at h1
  exact ⟨B2, h1, h2⟩
theorem m_g0 {S : ST} {A : Nat → Nat → Int32} (C : Cm S A) (N : Cn S) (k : Nat) (B : Nat → Nat → Int64) {t w : Int32} (ht : 0 ≤ t ∧ t < 4) (hw : 0 ≤ w ∧ w < 3) : ∃ B2, f_X4_lookParts (A, B) t w (k + 200) = some (gT2 S (B 0) t w, (A, B2)) ∧ B2 0 = B 0 := by
  obtain ⟨B2, h1, h2⟩ := m_look C.1 k B ht hw
  rw [C.2.1, C.2.2 t ht, ← cT_mT N.1 (N.2.2.2 t ht)] at h1
  exact ⟨B2, h1, h2⟩
def bt (g : Int32 → Int64) (q : Int32 × Int64) (u : Int32) : Int32 × Int64 := if g u ≤ q.2 then q else (u, g u)
def btt (g : Int32 → Int64) : Int32 × Int64 := bt g (bt g (bt g (bt g (-9, 0) 0) 1) 2) 3
theorem c_bt {S : ST} {A : Nat → Nat → Int32} (C : Cc S A) (k n : Nat) (B : Nat → Nat → Int64) {u u2 : Int32} (w : Int32) (q : Int32 × Int64) (hu : 0 ≤ u ∧ u < 4) (e : u + 1 = u2) : ∃ B2, f_X3_bestTest_L34 w (k + 200) (n + 1) q.1 q.2 u (A, B) = f_X3_bestTest_L34 w (k + 200) n (bt (fun u => gT2 S (B 0) u w) q u).1 (bt (fun u => gT2 S (B 0) u w) q u).2 u2 (A, B2) ∧ B2 0 = B 0 := by
  obtain ⟨B2, h1, h2, h3⟩ := c_g0 C k B hu w
  refine ⟨B2, ?_, h2⟩
  rw [f_X3_bestTest_L34, if_neg (by grind), h1, p_bs, e, bt]
  simp only [lg_cmp_le]
  split <;> rfl
theorem m_bt {S : ST} {A : Nat → Nat → Int32} (C : Cm S A) (N : Cn S) (k n : Nat) (B : Nat → Nat → Int64) {u u2 w : Int32} (hw : 0 ≤ w ∧ w < 3) (q : Int32 × Int64) (hu : 0 ≤ u ∧ u < 4) (e : u + 1 = u2) : ∃ B2, f_X4_bestTest_L29 w (k + 200) (n + 1) q.1 q.2 u (A, B) = f_X4_bestTest_L29 w (k + 200) n (bt (fun u => gT2 S (B 0) u w) q u).1 (bt (fun u => gT2 S (B 0) u w) q u).2 u2 (A, B2) ∧ B2 0 = B 0 := by
  obtain ⟨B2, h1, h2⟩ := m_g0 C N k B hu hw
  refine ⟨B2, ?_, h2⟩
  rw [f_X4_bestTest_L29, if_neg (by grind), h1, p_bs, e, bt]
  simp only [lg_cmp_gt]
  by_cases h : gT2 S (B 0) u w ≤ q.2
  · rw [if_pos h, if_neg (by grind)]
  · rw [if_neg h, if_pos (by grind)]
theorem c_btt {S : ST} {A : Nat → Nat → Int32} (C : Cc S A) (k : Nat) (B : Nat → Nat → Int64) (w : Int32) : ∃ B2, f_X3_bestTest_L34 w (k + 200) (k + 200) (-9) 0 0 (A, B) = some ((btt (fun u => gT2 S (B 0) u w)).1, (btt (fun u => gT2 S (B 0) u w)).2, 4, (A, B2)) ∧ B2 0 = B 0 := by
  obtain ⟨B1, h1, e1⟩ := c_bt C k (k + 199) B (u := 0) (u2 := 1) w (-9, 0) (by decide) (by decide)
  obtain ⟨B2, h2, e2⟩ := c_bt C k (k + 198) B1 (u := 1) (u2 := 2) w (bt (fun u => gT2 S (B 0) u w) (-9, 0) 0) (by decide) (by decide)
  rw [e1] at h2 e2
  obtain ⟨B3, h3, e3⟩ := c_bt C k (k + 197) B2 (u := 2) (u2 := 3) w (bt (fun u => gT2 S (B 0) u w) (bt (fun u => gT2 S (B 0) u w) (-9, 0) 0) 1) (by decide) (by decide)
  rw [e2] at h3 e3
  obtain ⟨B4, h4, e4⟩ := c_bt C k (k + 196) B3 (u := 3) (u2 := 4) w (bt (fun u => gT2 S (B 0) u w) (bt (fun u => gT2 S (B 0) u w) (bt (fun u => gT2 S (B 0) u w) (-9, 0) 0) 1) 2) (by decide) (by decide)
  rw [e3] at h4 e4
  refine ⟨B4, h1.trans (h2.trans (h3.trans (h4.trans ?_))), e4⟩
  rw [f_X3_bestTest_L34, if_pos (by decide)]
  rfl
theorem m_btt {S : ST} {A : Nat → Nat → Int32} (C : Cm S A) (N : Cn S) (k : Nat) (B : Nat → Nat → Int64) {w : Int32} (hw : 0 ≤ w ∧ w < 3) : ∃ B2, f_X4_bestTest_L29 w (k + 200) (k + 200) (-9) 0 0 (A, B) = some ((btt (fun u => gT2 S (B 0) u w)).1, (btt (fun u => gT2 S (B 0) u w)).2, 4, (A, B2)) ∧ B2 0 = B 0 := by
  obtain ⟨B1, h1, e1⟩ := m_bt C N k (k + 199) B (u := 0) (u2 := 1) hw (-9, 0) (by decide) (by decide)
  obtain ⟨B2, h2, e2⟩ := m_bt C N k (k + 198) B1 (u := 1) (u2 := 2) hw (bt (fun u => gT2 S (B 0) u w) (-9, 0) 0) (by decide) (by decide)
  rw [e1] at h2 e2
  obtain ⟨B3, h3, e3⟩ := m_bt C N k (k + 197) B2 (u := 2) (u2 := 3) hw (bt (fun u => gT2 S (B 0) u w) (bt (fun u => gT2 S (B 0) u w) (-9, 0) 0) 1) (by decide) (by decide)
  rw [e2] at h3 e3
  obtain ⟨B4, h4, e4⟩ := m_bt C N k (k + 196) B3 (u := 3) (u2 := 4) hw (bt (fun u => gT2 S (B 0) u w) (bt (fun u => gT2 S (B 0) u w) (bt (fun u => gT2 S (B 0) u w) (-9, 0) 0) 1) 2) (by decide) (by decide)
  rw [e3] at h4 e4
  refine ⟨B4, h1.trans (h2.trans (h3.trans (h4.trans ?_))), e4⟩
  rw [f_X4_bestTest_L29, if_pos (by decide)]
  rfl
theorem E5.btt {F G : Nat → Int64} (h : E5 F G) (S : ST) (w : Int32) : btt (fun u => gT2 S F u w) = btt (fun u => gT2 S G u w) := by
  simp only [h.g]
theorem o_bestTest {S M : ST} (R : Rel S M) (k : Nat) (w : Int32) : O2 (f_X3_bestTest S w (k + 200)) (f_X4_bestTest M w (k + 200)) := by
  unfold f_X3_bestTest f_X4_bestTest
  rw [m_notBest R]
  refine o_int R k _ _ fun h0 _ hj => ?_
  obtain ⟨S2, M2, h1, h2, T⟩ := think_both R hj k
  rw [h1, h2, p_bs, p_bs]
  obtain ⟨C, D, N⟩ := T.cc R hj
  obtain ⟨A, B⟩ := S2
  obtain ⟨A4, B4⟩ := M2
  obtain ⟨B2, a1, a2⟩ := c_btt C k B w
  obtain ⟨B3, b1, b2⟩ := m_btt D N k B4 (one_iff.mp h0)
  rw [a1, b1, p_bs, p_bs]
  refine ⟨_, (A, B2), (A4, B3), rfl, ?_, R.frame T.2.1 (fun r _ => by rw [T.2.2.1])⟩
  dsimp only
  rw [T.2.2.2.1.btt, T.2.2.2.2.1.btt]
/-! the loops that seek the best -/
def amx (g : Nat → Int64) : Nat → Nat → Nat → Nat
  | 0, _, b => b
  | m + 1, i, b => amx g m (i + 1) (if g b < g i then i else b)
theorem amx_lt {g : Nat → Int64} {n : Nat} : ∀ m i b, i + m ≤ n → b < n → amx g m i b < n
  | 0, _, b, _, h => h
  | m + 1, i, b, h1, h2 => by
    rw [amx]
    apply amx_lt m (i + 1) _ (by omega)
    split <;> omega
theorem amx_congr {g g2 : Nat → Int64} (h : ∀ i, g i = g2 i) : ∀ m i b, amx g m i b = amx g2 m i b
  | 0, _, _ => rfl
  | m + 1, i, b => by rw [amx, amx, amx_congr h m, h, h]
theorem c_two {A : Nat → Nat → Int32} (k : Nat) (F : Nat → Int64) (g : Nat → Int64) (w : Int32) (hg : ∀ B : Nat → Nat → Int64, B 0 = F → ∀ i, i < 16 → ∃ B2, f_X3_pairWorth (A, B) (Int32.ofNat i) w (k + 200) = some (g i, (A, B2)) ∧ B2 0 = F) : ∀ (m i j b : Nat) (B : Nat → Nat → Int64), i + m = 16 → b < 16 → B 0 = F → ∃ q B2, f_X3_two_L38 w (k + 200) (m + 1 + j) (Int32.ofNat b) (g b) (Int32.ofNat i) (A, B) = some (Int32.ofNat (amx g m i b), g (amx g m i b), q, (A, B2)) ∧ B2 0 = F
  | 0, i, j, b, B, h1, h2, h3 => by
    obtain rfl : i = 16 := by omega
    refine ⟨Int32.ofNat 16, B, ?_, h3⟩
    rw [show 0 + 1 + j = j + 1 by omega, f_X3_two_L38, if_pos (by decide)]
    rfl
  | m + 1, i, j, b, B, h1, h2, h3 => by
    obtain ⟨B2, a1, a2⟩ := hg B h3 i (by omega)
    rw [show m + 1 + 1 + j = (m + 1 + j) + 1 by omega, f_X3_two_L38, if_neg (fun z => by have := (p_le (a := 16) (by omega) (by omega)).mp z; omega), a1, p_bs, amx]
    simp only [lg_cmp_le]
    by_cases h : g i ≤ g b
    · rw [if_pos h, if_neg (show ¬ g b < g i by grind)]
      have := c_two k F g w hg m (i + 1) j b B2 (by omega) h2 a2
      rw [Int32.ofNat_add] at this
      exact this
    · rw [if_neg h, if_pos (show g b < g i by grind)]
      have := c_two k F g w hg m (i + 1) j i B2 (by omega) (by omega) a2
      rw [Int32.ofNat_add] at this
      exact this
theorem c_free {A : Nat → Nat → Int32} (k : Nat) (F : Nat → Int64) (g : Nat → Int64) (w : Int32) (hg : ∀ B : Nat → Nat → Int64, B 0 = F → ∀ i, i < 4 → ∃ B2, f_X3_firstWorth (A, B) (Int32.ofNat i) w (k + 200) = some (g i, (A, B2)) ∧ B2 0 = F) : ∀ (m i j b : Nat) (B : Nat → Nat → Int64), i + m = 4 → b < 4 → B 0 = F → ∃ q B2, f_X3_free_L38 w (k + 200) (m + 1 + j) (Int32.ofNat b) (g b) (Int32.ofNat i) (A, B) = some (Int32.ofNat (amx g m i b), g (amx g m i b), q, (A, B2)) ∧ B2 0 = F
  | 0, i, j, b, B, h1, h2, h3 => by
    obtain rfl : i = 4 := by omega
    refine ⟨Int32.ofNat 4, B, ?_, h3⟩
    rw [show 0 + 1 + j = j + 1 by omega, f_X3_free_L38, if_pos (by decide)]
    rfl
  | m + 1, i, j, b, B, h1, h2, h3 => by
    obtain ⟨B2, a1, a2⟩ := hg B h3 i (by omega)
    rw [show m + 1 + 1 + j = (m + 1 + j) + 1 by omega, f_X3_free_L38, if_neg (fun z => by have := (p_le (a := 4) (by omega) (by omega)).mp z; omega), a1, p_bs, amx]
    simp only [lg_cmp_le]
    by_cases h : g i ≤ g b
    · rw [if_pos h, if_neg (show ¬ g b < g i by grind)]
      have := c_free k F g w hg m (i + 1) j b B2 (by omega) h2 a2
      rw [Int32.ofNat_add] at this
      exact this
    · rw [if_neg h, if_pos (show g b < g i by grind)]
      have := c_free k F g w hg m (i + 1) j i B2 (by omega) (by omega) a2
      rw [Int32.ofNat_add] at this
      exact this
theorem c_twoW {A : Nat → Nat → Int32} (k : Nat) (F : Nat → Int64) (g : Nat → Int64) (w : Int32) (hg : ∀ B : Nat → Nat → Int64, B 0 = F → ∀ i, i < 16 → ∃ B2, f_X3_pairWorth (A, B) (Int32.ofNat i) w (k + 200) = some (g i, (A, B2)) ∧ B2 0 = F) : ∀ (m i j b : Nat) (B : Nat → Nat → Int64), i + m = 16 → b < 16 → B 0 = F → ∃ q B2, f_X3_twoWorth_L40 w (k + 200) (m + 1 + j) (g b) (Int32.ofNat i) (A, B) = some (g (amx g m i b), q, (A, B2)) ∧ B2 0 = F
  | 0, i, j, b, B, h1, h2, h3 => by
    obtain rfl : i = 16 := by omega
    refine ⟨Int32.ofNat 16, B, ?_, h3⟩
    rw [show 0 + 1 + j = j + 1 by omega, f_X3_twoWorth_L40, if_pos (by decide)]
    rfl
  | m + 1, i, j, b, B, h1, h2, h3 => by
    obtain ⟨B2, a1, a2⟩ := hg B h3 i (by omega)
    rw [show m + 1 + 1 + j = (m + 1 + j) + 1 by omega, f_X3_twoWorth_L40, if_neg (fun z => by have := (p_le (a := 16) (by omega) (by omega)).mp z; omega), a1, p_bs, amx]
    dsimp only
    by_cases h : g b < g i
    · rw [if_pos h, if_neg (show ¬ g i < g b by grind)]
      have := c_twoW k F g w hg m (i + 1) j i B2 (by omega) (by omega) a2
      rw [Int32.ofNat_add] at this
      exact this
    · rw [if_neg h, show (if g i < g b then g b else g i) = g b by split <;> grind]
      have := c_twoW k F g w hg m (i + 1) j b B2 (by omega) h2 a2
      rw [Int32.ofNat_add] at this
      exact this
theorem c_freeW {A : Nat → Nat → Int32} (k : Nat) (F : Nat → Int64) (g : Nat → Int64) (w : Int32) (hg : ∀ B : Nat → Nat → Int64, B 0 = F → ∀ i, i < 4 → ∃ B2, f_X3_firstWorth (A, B) (Int32.ofNat i) w (k + 200) = some (g i, (A, B2)) ∧ B2 0 = F) : ∀ (m i j b : Nat) (B : Nat → Nat → Int64), i + m = 4 → b < 4 → B 0 = F → ∃ q B2, f_X3_freeWorth_L40 w (k + 200) (m + 1 + j) (g b) (Int32.ofNat i) (A, B) = some (g (amx g m i b), q, (A, B2)) ∧ B2 0 = F
  | 0, i, j, b, B, h1, h2, h3 => by
    obtain rfl : i = 4 := by omega
    refine ⟨Int32.ofNat 4, B, ?_, h3⟩
    rw [show 0 + 1 + j = j + 1 by omega, f_X3_freeWorth_L40, if_pos (by decide)]
    rfl
  | m + 1, i, j, b, B, h1, h2, h3 => by
    obtain ⟨B2, a1, a2⟩ := hg B h3 i (by omega)
    rw [show m + 1 + 1 + j = (m + 1 + j) + 1 by omega, f_X3_freeWorth_L40, if_neg (fun z => by have := (p_le (a := 4) (by omega) (by omega)).mp z; omega), a1, p_bs, amx]
    dsimp only
    by_cases h : g b < g i
    · rw [if_pos h, if_neg (show ¬ g i < g b by grind)]
      have := c_freeW k F g w hg m (i + 1) j i B2 (by omega) (by omega) a2
      rw [Int32.ofNat_add] at this
      exact this
    · rw [if_neg h, show (if g i < g b then g b else g i) = g b by split <;> grind]
      have := c_freeW k F g w hg m (i + 1) j b B2 (by omega) h2 a2
      rw [Int32.ofNat_add] at this
      exact this
theorem m_two {A : Nat → Nat → Int32} (k : Nat) (F : Nat → Int64) (g : Nat → Int64) (w : Int32) (hg : ∀ B : Nat → Nat → Int64, B 0 = F → ∀ i, i < 16 → ∃ B2, f_X4_twoParts (A, B) ((Int32.ofNat i) / 4) ((Int32.ofNat i) - (Int32.ofNat i) / 4 * 4) w (k + 200) = some (g i, (A, B2)) ∧ B2 0 = F) : ∀ (m i j b : Nat) (B : Nat → Nat → Int64), i + m = 16 → b < 16 → B 0 = F → ∃ q B2, f_X4_bestTwo_L4 w (k + 200) (m + 1 + j) (Int32.ofNat b) (Int32.ofNat i) (A, B) = some (Int32.ofNat (amx g m i b), q, (A, B2)) ∧ B2 0 = F
  | 0, i, j, b, B, h1, h2, h3 => by
    obtain rfl : i = 16 := by omega
    refine ⟨Int32.ofNat 16, B, ?_, h3⟩
    rw [show 0 + 1 + j = j + 1 by omega, f_X4_bestTwo_L4, if_pos (by decide)]
    rfl
  | m + 1, i, j, b, B, h1, h2, h3 => by
    obtain ⟨B2, a1, a2⟩ := hg B h3 i (by omega)
    obtain ⟨B3, a3, a4⟩ := hg B2 a2 b (by omega)
    rw [show m + 1 + 1 + j = (m + 1 + j) + 1 by omega, f_X4_bestTwo_L4, if_neg (fun z => by have := (p_le (a := 16) (by omega) (by omega)).mp z; omega), a1, p_bs, a3, p_bs, amx]
    simp only [lg_cmp_le]
    by_cases h : g i ≤ g b
    · rw [if_pos h, if_neg (show ¬ g b < g i by grind)]
      have := m_two k F g w hg m (i + 1) j b B3 (by omega) h2 a4
      rw [Int32.ofNat_add] at this
      exact this
    · rw [if_neg h, if_pos (show g b < g i by grind)]
      have := m_two k F g w hg m (i + 1) j i B3 (by omega) (by omega) a4
      rw [Int32.ofNat_add] at this
      exact this
theorem m_free {A : Nat → Nat → Int32} (k : Nat) (F : Nat → Int64) (g : Nat → Int64) (w : Int32) (hg : ∀ B : Nat → Nat → Int64, B 0 = F → ∀ i, i < 4 → ∃ B2, f_X4_freeParts (A, B) (Int32.ofNat i) w (k + 200) = some (g i, (A, B2)) ∧ B2 0 = F) : ∀ (m i j b : Nat) (B : Nat → Nat → Int64), i + m = 4 → b < 4 → B 0 = F → ∃ q B2, f_X4_bestFree_L4 w (k + 200) (m + 1 + j) (Int32.ofNat b) (Int32.ofNat i) (A, B) = some (Int32.ofNat (amx g m i b), q, (A, B2)) ∧ B2 0 = F
  | 0, i, j, b, B, h1, h2, h3 => by
    obtain rfl : i = 4 := by omega
    refine ⟨Int32.ofNat 4, B, ?_, h3⟩
    rw [show 0 + 1 + j = j + 1 by omega, f_X4_bestFree_L4, if_pos (by decide)]
    rfl
  | m + 1, i, j, b, B, h1, h2, h3 => by
    obtain ⟨B2, a1, a2⟩ := hg B h3 i (by omega)
    obtain ⟨B3, a3, a4⟩ := hg B2 a2 b (by omega)
    rw [show m + 1 + 1 + j = (m + 1 + j) + 1 by omega, f_X4_bestFree_L4, if_neg (fun z => by have := (p_le (a := 4) (by omega) (by omega)).mp z; omega), a1, p_bs, a3, p_bs, amx]
    simp only [lg_cmp_le]
    by_cases h : g i ≤ g b
    · rw [if_pos h, if_neg (show ¬ g b < g i by grind)]
      have := m_free k F g w hg m (i + 1) j b B3 (by omega) h2 a4
      rw [Int32.ofNat_add] at this
      exact this
    · rw [if_neg h, if_pos (show g b < g i by grind)]
      have := m_free k F g w hg m (i + 1) j i B3 (by omega) (by omega) a4
      rw [Int32.ofNat_add] at this
      exact this
