/-! two tests, a second one free, useless ones -/
theorem tn_all : ∀ a : Fin 11, Int32.toInt64 (10 - Int32.ofNat a.1) = 10 - Int32.toInt64 (Int32.ofNat a.1) := by decide +kernel
theorem tn_10 {c : Int32} (h : 0 ≤ c ∧ c ≤ 10) : Int32.toInt64 (10 - c) = 10 - Int32.toInt64 c := by
  obtain ⟨a, ha, rfl⟩ := p_ix (n := 11) (by decide) h.1 (show c < 11 by grind)
  exact tn_all ⟨a, ha⟩
theorem nar_01 {F : Nat → Int64} {kd t : Int32} (h1 : 0 ≤ kd ∧ kd < 6) (h2 : 0 ≤ t ∧ t < 4) (i : Nat) (hi : i < 5) : nar F kd t 0 i + nar F kd t 1 i = 10 * F i := by
  have h0s : (0 : Int32) ≤ Int32.ofNat i := by rw [show (0 : Int32) = Int32.ofNat 0 from rfl, p_le (by omega) (by omega)]; omega
  have hs5 : Int32.ofNat i < 5 := (p_lt (b := 5) (by omega) (by omega)).mpr hi
  unfold nar tn
  rw [if_neg (by decide), if_pos rfl, tn_10 (off_in h1 h2 ⟨h0s, hs5⟩)]
  grind
theorem sum_01 {F : Nat → Int64} {kd t : Int32} (h1 : 0 ≤ kd ∧ kd < 6) (h2 : 0 ≤ t ∧ t < 4) : sumv (nar F kd t 0) + sumv (nar F kd t 1) = 10 * sumv F := by
  have a0 := nar_01 (F := F) h1 h2 0 (by decide)
  have a1 := nar_01 (F := F) h1 h2 1 (by decide)
  have a2 := nar_01 (F := F) h1 h2 2 (by decide)
  have a3 := nar_01 (F := F) h1 h2 3 (by decide)
  have a4 := nar_01 (F := F) h1 h2 4 (by decide)
  unfold sumv
  grind
theorem p_cs2 : ∀ a : Fin 10, ∀ b : Fin 10, Int32.toInt64 (Int32.ofNat a.1 + Int32.ofNat b.1) = Int32.toInt64 (Int32.ofNat a.1) + Int32.toInt64 (Int32.ofNat b.1) := by decide +kernel
theorem p_cs {c d : Int32} (h : 0 ≤ c ∧ c ≤ 9) (h2 : 0 ≤ d ∧ d ≤ 9) : Int32.toInt64 (c + d) = Int32.toInt64 c + Int32.toInt64 d := by
  obtain ⟨a, ha, rfl⟩ := p_ix (n := 10) (by decide) h.1 (show c < 10 by grind)
  obtain ⟨b, hb, rfl⟩ := p_ix (n := 10) (by decide) h2.1 (show d < 10 by grind)
  exact p_cs2 ⟨a, ha⟩ ⟨b, hb⟩
def gP (S : ST) (F : Nat → Int64) (t1 t2 w : Int32) : Int64 := 10 * gT2 S F t1 w + gT2 S (nar F (S.1 5 (jj S)) t1 0) t2 w + gT2 S (nar F (S.1 5 (jj S)) t1 1) t2 w
theorem E5.p {F G : Nat → Int64} (h : E5 F G) (S : ST) (t1 t2 w : Int32) : gP S F t1 t2 w = gP S G t1 t2 w := by
  unfold gP
  rw [h.g, (h.nar _ t1 0).g, (h.nar _ t1 1).g]
theorem c_pair {S : ST} {A : Nat → Nat → Int32} (C : Cc S A) (k : Nat) (B : Nat → Nat → Int64) {p : Int32} (h1 : 0 ≤ p / 4 ∧ p / 4 < 4) (h2 : 0 ≤ p - p / 4 * 4 ∧ p - p / 4 * 4 < 4) (w : Int32) : ∃ B2, f_X3_pairWorth (A, B) p w (k + 200) = some (gP S (B 0) (p / 4) (p - p / 4 * 4) w, (A, B2)) ∧ B2 0 = B 0 := by
  unfold f_X3_pairWorth
  obtain ⟨B1, a1, a2, a3⟩ := c_g0 C k B h1 w
  rw [a1, p_bs, f_X3_pairWorth_L28, if_neg (by decide)]
  dsimp only
  rw [c_narrow, p_bs]
  obtain ⟨B2, b1, b2, b3⟩ := c_g1 C k (kLS B1 1 (v5 (B1 1) (nar (B1 0) (A 34 0) (p / 4) 0))) h2 w
  rw [b1, p_bs, f_X3_pairWorth_L28, if_neg (by decide)]
  dsimp only
  rw [c_narrow, p_bs]
  obtain ⟨B3, d1, d2, d3⟩ := c_g1 C k (kLS B2 1 (v5 (B2 1) (nar (B2 0) (A 34 0) (p / 4) (0 + 1)))) h2 w
  rw [d1, p_bs, f_X3_pairWorth_L28, if_pos (by decide), p_bs]
  dsimp only
  refine ⟨B3, ?_, by rw [d2, kLS_10, b2, kLS_10, a2]⟩
  rw [kLS_11, kLS_11, (E5.v (F := B1 1)).g, (E5.v (F := B2 1)).g, b2, kLS_10, a2, C.1]
  rfl
theorem m_two1 {S : ST} {A : Nat → Nat → Int32} (C : Cm S A) (N : Cn S) (k : Nat) (B : Nat → Nat → Int64) {t1 t2 w : Int32} (h1 : 0 ≤ t1 ∧ t1 < 4) (h2 : 0 ≤ t2 ∧ t2 < 4) (hw : 0 ≤ w ∧ w < 3) : ∃ B2, f_X4_twoParts (A, B) t1 t2 w (k + 200) = some (gP S (B 0) t1 t2 w, (A, B2)) ∧ B2 0 = B 0 := by
  unfold f_X4_twoParts
  obtain ⟨B1, a1, a2, a3⟩ := m_laysP C.1 k B h1 0
  obtain ⟨B2, b1, b2, b3⟩ := m_bb1 C.1 k B1 h2 hw
  obtain ⟨B3, d1, d2, d3⟩ := m_laysP C.1 k B2 h1 (0 + 1)
  obtain ⟨B4, e1, e2, e3⟩ := m_bb1 C.1 k B3 h2 hw
  rw [f_X4_twoParts_L6, if_neg (by decide), a1, p_bs, b1, p_bs, f_X4_twoParts_L6, if_neg (by decide)]
  dsimp only
  rw [d1, p_bs, e1, p_bs, f_X4_twoParts_L6, if_pos (by decide), p_bs, m_bsum0 k _ hw, p_bs]
  dsimp only
  rw [if_neg C.1.nb, m_all0, p_bs, if_neg (p_nb (n := 4) (by decide) h1.1 h1.2), if_neg (p_nb (n := 4) (by decide) h2.1 h2.2)]
  dsimp only
  have z : B4 0 = B 0 := by rw [e2, d2, b2, a2]
  refine ⟨B4, ?_, z⟩
  have f3 : E5 (B3 1) (nar (B 0) (S.1 5 (jj S)) t1 1) := by
    have := d3
    rw [b2, a2] at this
    exact this
  rw [z, C.1.2.2.2.1, C.2.2 t1 h1, C.2.2 t2 h2, C.2.1, (a3.nar _ t2 1).s, (a3.nar _ t2 0).s, (f3.nar _ t2 1).s, (f3.nar _ t2 0).s, p_cs (N.2.2.2 t1 h1) (N.2.2.2 t2 h2)]
  have s1 := sum_01 (F := B 0) N.2.1 h1
  unfold gP gT2
  rw [cT_mT N.1 (N.2.2.2 t1 h1), cT_mT N.1 (N.2.2.2 t2 h2), cT_mT N.1 (N.2.2.2 t2 h2)]
  unfold mT mB
  congr 1
  congr 1
  grind
theorem t_all : ∀ i : Fin 16, (0 ≤ Int32.ofNat i.1 / 4 ∧ Int32.ofNat i.1 / 4 < 4) ∧ (0 ≤ Int32.ofNat i.1 - Int32.ofNat i.1 / 4 * 4 ∧ Int32.ofNat i.1 - Int32.ofNat i.1 / 4 * 4 < 4) := by decide +kernel
def gI (S : ST) (F : Nat → Int64) (w : Int32) (i : Nat) : Int64 := gP S F (Int32.ofNat i / 4) (Int32.ofNat i - Int32.ofNat i / 4 * 4) w
theorem c_hg {S : ST} {A : Nat → Nat → Int32} (C : Cc S A) (k : Nat) (F : Nat → Int64) (w : Int32) : ∀ B : Nat → Nat → Int64, B 0 = F → ∀ i, i < 16 → ∃ B2, f_X3_pairWorth (A, B) (Int32.ofNat i) w (k + 200) = some (gI S F w i, (A, B2)) ∧ B2 0 = F := fun B hB i hi => by
  obtain ⟨B2, h1, h2⟩ := c_pair C k B (t_all ⟨i, hi⟩).1 (t_all ⟨i, hi⟩).2 w
  rw [hB] at h1 h2
  exact ⟨B2, h1, h2⟩
theorem m_hg {S : ST} {A : Nat → Nat → Int32} (C : Cm S A) (N : Cn S) (k : Nat) (F : Nat → Int64) {w : Int32} (hw : 0 ≤ w ∧ w < 3) : ∀ B : Nat → Nat → Int64, B 0 = F → ∀ i, i < 16 → ∃ B2, f_X4_twoParts (A, B) (Int32.ofNat i / 4) (Int32.ofNat i - Int32.ofNat i / 4 * 4) w (k + 200) = some (gI S F w i, (A, B2)) ∧ B2 0 = F := fun B hB i hi => by
  obtain ⟨B2, h1, h2⟩ := m_two1 C N k B (t_all ⟨i, hi⟩).1 (t_all ⟨i, hi⟩).2 hw
  rw [hB] at h1 h2
  exact ⟨B2, h1, h2⟩
theorem E5.amx {F G : Nat → Int64} (h : E5 F G) (S : ST) (w : Int32) (m i b : Nat) : amx (gI S F w) m i b = amx (gI S G w) m i b := amx_congr (fun j => h.p S _ _ w) m i b
theorem o_two {S M : ST} (R : Rel S M) (k : Nat) (w : Int32) : O2 (f_X3_two S w (k + 200)) (f_X4_two M w (k + 200)) := by
  unfold f_X3_two f_X4_two
  rw [m_notBest R]
  refine o_int R k _ _ fun h0 _ hj => ?_
  obtain ⟨S2, M2, h1, h2, T⟩ := think_both R hj k
  rw [h1, h2, p_bs, p_bs]
  obtain ⟨C, D, N⟩ := T.cc R hj
  obtain ⟨A, B⟩ := S2
  obtain ⟨A4, B4⟩ := M2
  obtain ⟨B1, a1, a2⟩ := c_hg C k (B 0) w B rfl 0 (by decide)
  obtain ⟨q, B2, a3, a4⟩ := c_two k (B 0) (gI S (B 0) w) w (c_hg C k (B 0) w) 15 1 (k + 184) 0 B1 (by decide) (by decide) a2
  obtain ⟨q2, B3, b1, b2⟩ := m_two k (B4 0) (gI S (B4 0) w) w (m_hg D N k (B4 0) (one_iff.mp h0)) 15 1 (k + 184) 0 B4 (by decide) (by decide) rfl
  rw [show 15 + 1 + (k + 184) = k + 200 by omega] at a3 b1
  unfold f_X4_bestTwo
  have a1' : f_X3_pairWorth (A, B) 0 w (k + 200) = some (gI S (B 0) w 0, (A, B1)) := a1
  have a3' : f_X3_two_L38 w (k + 200) (k + 200) 0 (gI S (B 0) w 0) 1 (A, B1) = _ := a3
  have b1' : f_X4_bestTwo_L4 w (k + 200) (k + 200) 0 1 (A4, B4) = _ := b1
  rw [a1', p_bs, a3', p_bs, b1', p_bs, p_bs]
  refine ⟨_, (A, B2), (A4, B3), rfl, ?_, R.frame T.2.1 (fun r _ => by rw [T.2.2.1])⟩
  dsimp only
  rw [T.2.2.2.1.amx, T.2.2.2.2.1.amx]
theorem o_twoWorth {S M : ST} (R : Rel S M) (k : Nat) (w p : Int32) : O3 (f_X3_twoWorth S w p (k + 200)) (f_X4_twoWorth M w p (k + 200)) := by
  unfold f_X3_twoWorth f_X4_twoWorth
  rw [m_notPart R]
  refine o_long R k _ _ fun h0 _ hj => ?_
  obtain ⟨S2, M2, h1, h2, T⟩ := think_both R hj k
  rw [h1, h2, p_bs, p_bs]
  obtain ⟨C, D, N⟩ := T.cc R hj
  obtain ⟨A, B⟩ := S2
  obtain ⟨A4, B4⟩ := M2
  obtain ⟨B1, a1, a2⟩ := c_hg C k (B 0) w B rfl 0 (by decide)
  obtain ⟨q, B2, a3, a4⟩ := c_twoW k (B 0) (gI S (B 0) w) w (c_hg C k (B 0) w) 15 1 (k + 184) 0 B1 (by decide) (by decide) a2
  obtain ⟨q2, B3, b1, b2⟩ := m_two k (B4 0) (gI S (B4 0) w) w (m_hg D N k (B4 0) (one_iff.mp h0)) 15 1 (k + 184) 0 B4 (by decide) (by decide) rfl
  obtain ⟨B5, b3, b4⟩ := m_hg D N k (B4 0) (one_iff.mp h0) B3 b2 (amx (gI S (B4 0) w) 15 1 0) (amx_lt 15 1 0 (by decide) (by decide))
  rw [show 15 + 1 + (k + 184) = k + 200 by omega] at a3 b1
  unfold f_X4_bestTwo
  have a1' : f_X3_pairWorth (A, B) 0 w (k + 200) = some (gI S (B 0) w 0, (A, B1)) := a1
  have a3' : f_X3_twoWorth_L40 w (k + 200) (k + 200) (gI S (B 0) w 0) 1 (A, B1) = _ := a3
  have b1' : f_X4_bestTwo_L4 w (k + 200) (k + 200) 0 1 (A4, B4) = _ := b1
  rw [a1', p_bs, a3', p_bs, b1', p_bs, p_bs]
  dsimp only
  rw [c_sumAll, p_bs, c_frac, p_bs, b3, p_bs, m_all0, p_bs, m_frac, p_bs]
  refine ⟨_, (A, B2), (A4, B5), rfl, ?_, R.frame T.2.1 (fun r _ => by rw [T.2.2.1])⟩
  dsimp only
  rw [a4, b4, T.2.2.2.1.amx, T.2.2.2.2.1.amx, T.2.2.2.1.a, T.2.2.2.2.1.a]
  unfold gI
  rw [T.2.2.2.1.p, T.2.2.2.2.1.p]
