/-! the second free; useless ones -/
def mx (x y : Int64) : Int64 := if y < x then x else y
def Mx (x : Int64) (g : Int32 → Int64) : Int64 := mx (mx (mx (mx x (g 0)) (g 1)) (g 2)) (g 3)
theorem mx_ab {x y : Int64} {X : Nat} (h1 : Ab x X) (h2 : Ab y X) : Ab (mx x y) X := by
  unfold mx
  split
  · exact h1
  · exact h2
theorem mx_sh {x y b : Int64} {X : Nat} (h1 : Ab x X) (h2 : Ab y X) (h3 : Ab b X) (hX : X < 1000000000000000000) : mx (x + b) (y + b) = mx x y + b := by
  have e1 := (h1.add h3 (by omega)).2
  have e2 := (h2.add h3 (by omega)).2
  unfold mx
  have e : (y + b < x + b) ↔ y < x := by
    rw [Int64.lt_iff_toInt_lt, Int64.lt_iff_toInt_lt, e1, e2]
    omega
  by_cases h : y < x
  · rw [if_pos h, if_pos (e.mpr h)]
  · rw [if_neg h, if_neg (fun z => h (e.mp z))]
theorem Mx_sh {x b : Int64} {g : Int32 → Int64} {X : Nat} (h1 : Ab x X) (h2 : ∀ t, (0 ≤ t ∧ t < 4) → Ab (g t) X) (h3 : Ab b X) (hX : X < 1000000000000000000) : Mx (x + b) (fun t => g t + b) = Mx x g + b := by
  unfold Mx
  rw [mx_sh h1 (h2 0 (by decide)) h3 hX, mx_sh (mx_ab h1 (h2 0 (by decide))) (h2 1 (by decide)) h3 hX, mx_sh (mx_ab (mx_ab h1 (h2 0 (by decide))) (h2 1 (by decide))) (h2 2 (by decide)) h3 hX, mx_sh (mx_ab (mx_ab (mx_ab h1 (h2 0 (by decide))) (h2 1 (by decide))) (h2 2 (by decide))) (h2 3 (by decide)) h3 hX]
theorem Mx_congr {x y : Int64} {g g2 : Int32 → Int64} (h0 : x = y) (h : ∀ t, (0 ≤ t ∧ t < 4) → g t = g2 t) : Mx x g = Mx y g2 := by
  unfold Mx
  rw [h0, h 0 (by decide), h 1 (by decide), h 2 (by decide), h 3 (by decide)]
def gF (S : ST) (F : Nat → Int64) (w t1 : Int32) : Int64 := 10 * gT2 S F t1 w + Mx 0 (fun t => gT2 S (nar F (S.1 5 (jj S)) t1 0) t w) + Mx 0 (fun t => gT2 S (nar F (S.1 5 (jj S)) t1 1) t w)
theorem E5.f {F G : Nat → Int64} (h : E5 F G) (S : ST) (w t1 : Int32) : gF S F w t1 = gF S G w t1 := by
  unfold gF
  simp only [h.g, (h.nar (S.1 5 (jj S)) t1 0).g, (h.nar (S.1 5 (jj S)) t1 1).g]
theorem c_fi {S : ST} {A : Nat → Nat → Int32} (C : Cc S A) (k n : Nat) (B : Nat → Nat → Int64) {u u2 : Int32} (w : Int32) (x : Int64) (hu : 0 ≤ u ∧ u < 4) (e : u + 1 = u2) : ∃ B2, f_X3_firstWorth_L48 w (k + 200) (n + 1) x u (A, B) = f_X3_firstWorth_L48 w (k + 200) n (mx x (gT2 S (B 1) u w)) u2 (A, B2) ∧ B2 0 = B 0 ∧ B2 1 = B 1 := by
  obtain ⟨B2, h1, h2, h3⟩ := c_g1 C k B hu w
  refine ⟨B2, ?_, h2, h3⟩
  rw [f_X3_firstWorth_L48, if_neg (by grind), h1, p_bs, e, mx]
theorem c_fi4 {S : ST} {A : Nat → Nat → Int32} (C : Cc S A) (k : Nat) (B : Nat → Nat → Int64) (w : Int32) : ∃ B2, f_X3_firstWorth_L48 w (k + 200) (k + 200) 0 0 (A, B) = some (Mx 0 (fun t => gT2 S (B 1) t w), 4, (A, B2)) ∧ B2 0 = B 0 ∧ B2 1 = B 1 := by
  obtain ⟨B1, h1, e1, d1⟩ := c_fi C k (k + 199) B (u := 0) (u2 := 1) w 0 (by decide) (by decide)
  obtain ⟨B2, h2, e2, d2⟩ := c_fi C k (k + 198) B1 (u := 1) (u2 := 2) w (mx 0 (gT2 S (B 1) 0 w)) (by decide) (by decide)
  rw [d1] at h2 d2
  obtain ⟨B3, h3, e3, d3⟩ := c_fi C k (k + 197) B2 (u := 2) (u2 := 3) w (mx (mx 0 (gT2 S (B 1) 0 w)) (gT2 S (B 1) 1 w)) (by decide) (by decide)
  rw [d2] at h3 d3
  obtain ⟨B4, h4, e4, d4⟩ := c_fi C k (k + 196) B3 (u := 3) (u2 := 4) w (mx (mx (mx 0 (gT2 S (B 1) 0 w)) (gT2 S (B 1) 1 w)) (gT2 S (B 1) 2 w)) (by decide) (by decide)
  rw [d3] at h4 d4
  refine ⟨B4, h1.trans (h2.trans (h3.trans (h4.trans ?_))), by rw [e4, e3, e2, e1], d4⟩
  rw [f_X3_firstWorth_L48, if_pos (by decide)]
  rfl
theorem c_first {S : ST} {A : Nat → Nat → Int32} (C : Cc S A) (k : Nat) (B : Nat → Nat → Int64) {p : Int32} (h1 : 0 ≤ p ∧ p < 4) (w : Int32) : ∃ B2, f_X3_firstWorth (A, B) p w (k + 200) = some (gF S (B 0) w p, (A, B2)) ∧ B2 0 = B 0 := by
  unfold f_X3_firstWorth
  obtain ⟨B1, a1, a2, a3⟩ := c_g0 C k B h1 w
  rw [a1, p_bs, f_X3_firstWorth_L18, if_neg (by decide)]
  dsimp only
  rw [c_narrow, p_bs]
  obtain ⟨B2, b1, b2, b3⟩ := c_fi4 C k (kLS B1 1 (v5 (B1 1) (nar (B1 0) (A 34 0) p 0))) w
  rw [b1, p_bs, f_X3_firstWorth_L18, if_neg (by decide)]
  dsimp only
  rw [c_narrow, p_bs]
  obtain ⟨B3, d1, d2, d3⟩ := c_fi4 C k (kLS B2 1 (v5 (B2 1) (nar (B2 0) (A 34 0) p (0 + 1)))) w
  rw [d1, p_bs, f_X3_firstWorth_L18, if_pos (by decide), p_bs]
  dsimp only
  refine ⟨B3, ?_, by rw [d2, kLS_10, b2, kLS_10, a2]⟩
  simp only [kLS_11, (E5.v (F := B1 1)).g, (E5.v (F := B2 1)).g]
  rw [b2, kLS_10, a2, C.1]
  rfl
theorem mx_if {α : Type} (f : Int64 → α) (x v : Int64) : (if lg_cmp v x ≤ 0 then f x else f v) = f (mx x v) := by
  unfold mx
  by_cases h : v ≤ x
  · rw [if_pos ((lg_cmp_le v x).mpr h)]
    by_cases h4 : v < x
    · rw [if_pos h4]
    · rw [if_neg h4, Int64.le_antisymm (Int64.not_lt.mp h4) h]
  · rw [if_neg (fun z => h ((lg_cmp_le v x).mp z)), if_neg (fun z => h (Int64.le_of_lt z))]
theorem id_free (cp cs b b0 b1 s X0 X1 : Int64) : (0 + (X0 + (10 * b0) * cp) + (X1 + (10 * b1) * cp)) - (100 * b) * cp - (100 * s) * cs = 10 * ((b1 + b0 - 10 * b) * cp - (10 * s) * cs) + X0 + X1 := by grind
theorem m_fi {S : ST} {A : Nat → Nat → Int32} (C : Cm S A) (k n : Nat) (B : Nat → Nat → Int64) {u u2 w : Int32} (hw : 0 ≤ w ∧ w < 3) (x : Int64) (hu : 0 ≤ u ∧ u < 4) (e : u + 1 = u2) : ∃ B2, f_X4_freeParts_L47 w (k + 200) (n + 1) x u (A, B) = f_X4_freeParts_L47 w (k + 200) n (mx x (mB (S.1 0 3) (S.1 5 (jj S)) (B 1) u w * Int32.toInt64 (S.1 7 (jj S)) - (10 * sumv (B 1)) * Int32.toInt64 (S.1 3 (Int32.toNatClampNeg u)))) u2 (A, B2) ∧ B2 0 = B 0 ∧ B2 1 = B 1 := by
  obtain ⟨B2, h1, h2, h3⟩ := m_bb1 C.1 k B hu hw
  refine ⟨B2, ?_, h2, h3⟩
  rw [f_X4_freeParts_L47, if_neg (by grind), h1, p_bs]
  dsimp only
  rw [if_neg C.1.nb, m_all1, p_bs, if_neg (p_nb (n := 4) (by decide) hu.1 hu.2), p_bs, e]
  dsimp only
  refine (mx_if (fun z => f_X4_freeParts_L47 w (k + 200) n z u2 (A, B2)) x _).trans ?_
  rw [C.1.2.2.2.1, C.2.2 u hu, C.2.1, h3, mB]
theorem m_fi4 {S : ST} {A : Nat → Nat → Int32} (C : Cm S A) (k : Nat) (B : Nat → Nat → Int64) {w : Int32} (hw : 0 ≤ w ∧ w < 3) (x : Int64) : ∃ B2, f_X4_freeParts_L47 w (k + 200) (k + 200) x 0 (A, B) = some (Mx x (fun t => mB (S.1 0 3) (S.1 5 (jj S)) (B 1) t w * Int32.toInt64 (S.1 7 (jj S)) - (10 * sumv (B 1)) * Int32.toInt64 (S.1 3 (Int32.toNatClampNeg t))), 4, (A, B2)) ∧ B2 0 = B 0 ∧ B2 1 = B 1 := by
  obtain ⟨B1, h1, e1, d1⟩ := m_fi C k (k + 199) B (u := 0) (u2 := 1) hw x (by decide) (by decide)
  obtain ⟨B2, h2, e2, d2⟩ := m_fi C k (k + 198) B1 (u := 1) (u2 := 2) hw _ (by decide) (by decide)
  obtain ⟨B3, h3, e3, d3⟩ := m_fi C k (k + 197) B2 (u := 2) (u2 := 3) hw _ (by decide) (by decide)
  obtain ⟨B4, h4, e4, d4⟩ := m_fi C k (k + 196) B3 (u := 3) (u2 := 4) hw _ (by decide) (by decide)
  refine ⟨B4, h1.trans (h2.trans (h3.trans (h4.trans ?_))), by rw [e4, e3, e2, e1], by rw [d4, d3, d2, d1]⟩
  rw [f_X4_freeParts_L47, if_pos (by decide), d3, d2, d1]
  rfl
/-- of thoughts within bounds the test's worth is within bounds -/
theorem gT2_ab {S : ST} (N : Cn S) {F : Nat → Int64} (hF : Bd F 7000000000) {t w : Int32} (ht : 0 ≤ t ∧ t < 4) (hw : 0 ≤ w ∧ w < 3) : Ab (gT2 S F t w) 100000000000000000 ∧ Ab ((10 * bsum (S.1 0 3) F w) * Int32.toInt64 (S.1 7 (jj S))) 100000000000000000 := by
  have c1 : Ab (Int32.toInt64 (S.1 7 (jj S))) 9 := Ab.i (by have := p_toI (A := 9) (by decide) N.1; omega)
  have c2 : Ab (Int32.toInt64 (S.1 3 (Int32.toNatClampNeg t))) 9 := Ab.i (by have := p_toI (A := 9) (by decide) (N.2.2.2 t ht); omega)
  have c3 : Ab (10 : Int64) 10 := by unfold Ab; decide
  have b0 := bsum_ab hF (by decide) (pr := S.1 0 3) N.2.2.1 hw
  have b1 := bsum_ab (hF.nar (by decide) 1 N.2.1 ht) (by decide) (pr := S.1 0 3) N.2.2.1 hw
  have b2 := bsum_ab (hF.nar (by decide) 0 N.2.1 ht) (by decide) (pr := S.1 0 3) N.2.2.1 hw
  have s0 := (sumv_bd hF (by decide)).1
  have d1 := (b1.add b2 (by decide)).1
  have d2 := (c3.mul b0 (by decide)).1
  have d3 := (d1.sub d2 (by decide)).1
  have d4 := (d3.mul c1 (by decide)).1
  have d5 := (c3.mul s0 (by decide)).1
  have d6 := (d5.mul c2 (by decide)).1
  have d7 := (d4.sub d6 (by decide)).1
  refine ⟨?_, ((d2.mul c1 (by decide)).1).up (by decide)⟩
  unfold gT2
  rw [cT_mT N.1 (N.2.2.2 t ht)]
  exact d7.up (by decide)
theorem m_sh {S : ST} (N : Cn S) {w : Int32} (hw : 0 ≤ w ∧ w < 3) (F : Nat → Int64) (hF : Bd F 7000000000) : Mx ((10 * bsum (S.1 0 3) F w) * Int32.toInt64 (S.1 7 (jj S))) (fun t => mB (S.1 0 3) (S.1 5 (jj S)) F t w * Int32.toInt64 (S.1 7 (jj S)) - (10 * sumv F) * Int32.toInt64 (S.1 3 (Int32.toNatClampNeg t))) = Mx 0 (fun t => gT2 S F t w) + (10 * bsum (S.1 0 3) F w) * Int32.toInt64 (S.1 7 (jj S)) := by
  rw [← Mx_sh (X := 100000000000000000) (by unfold Ab; decide) (fun t ht => (gT2_ab N hF ht hw).1) (gT2_ab N hF (t := 0) (by decide) hw).2 (by decide)]
  apply Mx_congr
  · exact (Int64.zero_add _).symm
  · intro t ht
    unfold gT2
    rw [cT_mT N.1 (N.2.2.2 t ht)]
    unfold mT
    grind
theorem m_first {S : ST} {A : Nat → Nat → Int32} (C : Cm S A) (N : Cn S) (k : Nat) (B : Nat → Nat → Int64) (hB : Bd (B 0) 700000000) {t1 w : Int32} (h1 : 0 ≤ t1 ∧ t1 < 4) (hw : 0 ≤ w ∧ w < 3) : ∃ B2, f_X4_freeParts (A, B) t1 w (k + 200) = some (gF S (B 0) w t1, (A, B2)) ∧ B2 0 = B 0 := by
  unfold f_X4_freeParts
  obtain ⟨B1, a1, a2, a3⟩ := m_laysP C.1 k B h1 0
  have hb1 : Bd (B1 1) 7000000000 := (hB.nar (by decide) 0 N.2.1 h1).of a3
  obtain ⟨B2, b1, b2, b3⟩ := m_fi4 C k B1 hw ((10 * bsum (S.1 0 3) (B1 1) w) * Int32.toInt64 (S.1 7 (jj S)))
  obtain ⟨B3, d1, d2, d3⟩ := m_laysP C.1 k B2 h1 (0 + 1)
  have f3 : E5 (B3 1) (nar (B 0) (S.1 5 (jj S)) t1 1) := by
    have := d3
    rw [b2, a2] at this
    exact this
  have hb3 : Bd (B3 1) 7000000000 := (hB.nar (by decide) 1 N.2.1 h1).of f3
  obtain ⟨B4, e1, e2, e3⟩ := m_fi4 C k B3 hw ((10 * bsum (S.1 0 3) (B3 1) w) * Int32.toInt64 (S.1 7 (jj S)))
  rw [f_X4_freeParts_L5, if_neg (by decide), a1, p_bs, m_bsum1 k _ hw, p_bs]
  dsimp only
  rw [if_neg C.1.nb, p_bs, C.1.2.2.2.1, C.2.1, b1, p_bs, f_X4_freeParts_L5, if_neg (by decide)]
  dsimp only
  rw [d1, p_bs, m_bsum1 k _ hw, p_bs]
  dsimp only
  rw [if_neg C.1.nb, p_bs, C.1.2.2.2.1, C.2.1, e1, p_bs, f_X4_freeParts_L5, if_pos (by decide), p_bs, m_bsum0 k _ hw, p_bs]
  dsimp only
  rw [if_neg C.1.nb, m_all0, p_bs, if_neg (p_nb (n := 4) (by decide) h1.1 h1.2)]
  dsimp only
  have z : B4 0 = B 0 := by rw [e2, d2, b2, a2]
  refine ⟨B4, ?_, z⟩
  rw [m_sh N hw _ hb1, m_sh N hw _ hb3, z, C.1.2.2.2.1, C.2.2 t1 h1, C.2.1, a3.s, f3.s]
  simp only [a3.g, f3.g]
  unfold gF
  rw [show gT2 S (B 0) t1 w = mT (S.1 0 3) (S.1 7 (jj S)) (S.1 3 (Int32.toNatClampNeg t1)) (S.1 5 (jj S)) (B 0) t1 w from cT_mT N.1 (N.2.2.2 t1 h1)]
  unfold mT mB
  rw [id_free]
theorem t_all4 : ∀ i : Fin 4, 0 ≤ Int32.ofNat i.1 ∧ Int32.ofNat i.1 < 4 := by decide +kernel
def gJ (S : ST) (F : Nat → Int64) (w : Int32) (i : Nat) : Int64 := gF S F w (Int32.ofNat i)
theorem c_hf {S : ST} {A : Nat → Nat → Int32} (C : Cc S A) (k : Nat) (F : Nat → Int64) (w : Int32) : ∀ B : Nat → Nat → Int64, B 0 = F → ∀ i, i < 4 → ∃ B2, f_X3_firstWorth (A, B) (Int32.ofNat i) w (k + 200) = some (gJ S F w i, (A, B2)) ∧ B2 0 = F := fun B hB i hi => by
  obtain ⟨B2, h1, h2⟩ := c_first C k B (t_all4 ⟨i, hi⟩) w
  rw [hB] at h1 h2
  exact ⟨B2, h1, h2⟩
theorem m_hf {S : ST} {A : Nat → Nat → Int32} (C : Cm S A) (N : Cn S) (k : Nat) (F : Nat → Int64) (hF : Bd F 700000000) {w : Int32} (hw : 0 ≤ w ∧ w < 3) : ∀ B : Nat → Nat → Int64, B 0 = F → ∀ i, i < 4 → ∃ B2, f_X4_freeParts (A, B) (Int32.ofNat i) w (k + 200) = some (gJ S F w i, (A, B2)) ∧ B2 0 = F := fun B hB i hi => by
  obtain ⟨B2, h1, h2⟩ := m_first C N k B (by rw [hB]; exact hF) (t_all4 ⟨i, hi⟩) hw
  rw [hB] at h1 h2
  exact ⟨B2, h1, h2⟩
theorem e5_amf {F G : Nat → Int64} (h : E5 F G) (S : ST) (w : Int32) (m i b : Nat) : amx (gJ S F w) m i b = amx (gJ S G w) m i b := amx_congr (fun j => h.f S w _) m i b
theorem o_free {S M : ST} (R : Rel S M) (k : Nat) (w : Int32) : O2 (f_X3_free S w (k + 200)) (f_X4_free M w (k + 200)) := by
  unfold f_X3_free f_X4_free
  rw [m_notBest R]
  refine o_int R k _ _ fun h0 _ hj => ?_
  obtain ⟨S2, M2, h1, h2, T⟩ := think_both R hj k
  rw [h1, h2, p_bs, p_bs]
  obtain ⟨C, D, N⟩ := T.cc R hj
  have hF : Bd (M2.2 0) 700000000 := (TV_bd R hj).of T.2.2.2.2.1
  obtain ⟨A, B⟩ := S2
  obtain ⟨A4, B4⟩ := M2
  obtain ⟨B1, a1, a2⟩ := c_hf C k (B 0) w B rfl 0 (by decide)
  obtain ⟨q, B2, a3, a4⟩ := c_free k (B 0) (gJ S (B 0) w) w (c_hf C k (B 0) w) 3 1 (k + 196) 0 B1 (by decide) (by decide) a2
  obtain ⟨q2, B3, b1, b2⟩ := m_free k (B4 0) (gJ S (B4 0) w) w (m_hf D N k (B4 0) hF (one_iff.mp h0)) 3 1 (k + 196) 0 B4 (by decide) (by decide) rfl
  rw [show 3 + 1 + (k + 196) = k + 200 by omega] at a3 b1
  unfold f_X4_bestFree
  have a1' : f_X3_firstWorth (A, B) 0 w (k + 200) = some (gJ S (B 0) w 0, (A, B1)) := a1
  have a3' : f_X3_free_L38 w (k + 200) (k + 200) 0 (gJ S (B 0) w 0) 1 (A, B1) = _ := a3
  have b1' : f_X4_bestFree_L4 w (k + 200) (k + 200) 0 1 (A4, B4) = _ := b1
  rw [a1', p_bs, a3', p_bs, b1', p_bs, p_bs]
  refine ⟨_, (A, B2), (A4, B3), rfl, ?_, R.frame T.2.1 (fun r _ => by rw [T.2.2.1])⟩
  dsimp only
  rw [e5_amf T.2.2.2.1, e5_amf T.2.2.2.2.1]
theorem o_freeWorth {S M : ST} (R : Rel S M) (k : Nat) (w p : Int32) : O3 (f_X3_freeWorth S w p (k + 200)) (f_X4_freeWorth M w p (k + 200)) := by
  unfold f_X3_freeWorth f_X4_freeWorth
  rw [m_notPart R]
  refine o_long R k _ _ fun h0 _ hj => ?_
  obtain ⟨S2, M2, h1, h2, T⟩ := think_both R hj k
  rw [h1, h2, p_bs, p_bs]
  obtain ⟨C, D, N⟩ := T.cc R hj
  have hF : Bd (M2.2 0) 700000000 := (TV_bd R hj).of T.2.2.2.2.1
  obtain ⟨A, B⟩ := S2
  obtain ⟨A4, B4⟩ := M2
  obtain ⟨B1, a1, a2⟩ := c_hf C k (B 0) w B rfl 0 (by decide)
  obtain ⟨q, B2, a3, a4⟩ := c_freeW k (B 0) (gJ S (B 0) w) w (c_hf C k (B 0) w) 3 1 (k + 196) 0 B1 (by decide) (by decide) a2
  obtain ⟨q2, B3, b1, b2⟩ := m_free k (B4 0) (gJ S (B4 0) w) w (m_hf D N k (B4 0) hF (one_iff.mp h0)) 3 1 (k + 196) 0 B4 (by decide) (by decide) rfl
  obtain ⟨B5, b3, b4⟩ := m_hf D N k (B4 0) hF (one_iff.mp h0) B3 b2 (amx (gJ S (B4 0) w) 3 1 0) (amx_lt 3 1 0 (by decide) (by decide))
  rw [show 3 + 1 + (k + 196) = k + 200 by omega] at a3 b1
  unfold f_X4_bestFree
  have a1' : f_X3_firstWorth (A, B) 0 w (k + 200) = some (gJ S (B 0) w 0, (A, B1)) := a1
  have a3' : f_X3_freeWorth_L40 w (k + 200) (k + 200) (gJ S (B 0) w 0) 1 (A, B1) = _ := a3
  have b1' : f_X4_bestFree_L4 w (k + 200) (k + 200) 0 1 (A4, B4) = _ := b1
  rw [a1', p_bs, a3', p_bs, b1', p_bs, p_bs]
  dsimp only
  rw [c_sumAll, p_bs, c_frac, p_bs, b3, p_bs, m_all0, p_bs, m_frac, p_bs]
  refine ⟨_, (A, B2), (A4, B5), rfl, ?_, R.frame T.2.1 (fun r _ => by rw [T.2.2.1])⟩
  dsimp only
  rw [a4, b4, e5_amf T.2.2.2.1, e5_amf T.2.2.2.2.1, T.2.2.2.1.a, T.2.2.2.2.1.a]
  unfold gJ
  rw [T.2.2.2.1.f, T.2.2.2.2.1.f]
/-! useless ones -/
def okT (S : ST) (F : Nat → Int64) (w b t o : Int32) : Bool := decide (sumv (nar F (S.1 5 (jj S)) t o) = 0 ∨ buse (S.1 0 3) (nar F (S.1 5 (jj S)) t o) w = b)
theorem sum_z {F : Nat → Int64} {X : Nat} (h : Bd F X) (hX : X < 1000000000000000) : sumv F ≤ 0 ↔ sumv F = 0 := by
  have h1 := sumv_pos h hX
  constructor
  · intro z
    have z2 := Int64.le_iff_toInt_le.mp z
    apply Int64.toInt_inj.mp
    have e : (0 : Int64).toInt = 0 := rfl
    rw [e] at z2 ⊢
    omega
  · intro z
    rw [z]
    decide
theorem c_stay1 {S : ST} {A : Nat → Nat → Int32} (C : Cc S A) (N : Cn S) (k n : Nat) (B : Nat → Nat → Int64) (hB : Bd (B 0) 700000000) {t o : Int32} (ht : 0 ≤ t ∧ t < 4) (w b : Int32) (ho : ¬ (1 : Int32) < o) : ∃ B2, f_X3_staysBest_L3 t w b (k + 200) (n + 1) o (A, B) = (if okT S (B 0) w b t o = true then f_X3_staysBest_L3 t w b (k + 200) n (o + 1) (A, B2) else some (.inl (false, (A, B2)))) ∧ B2 0 = B 0 := by
  refine ⟨kLS B 1 (v5 (B 1) (nar (B 0) (A 34 0) t o)), ?_, rfl⟩
  rw [f_X3_staysBest_L3, if_neg ho]
  dsimp only
  rw [c_narrow, p_bs, c_sumAll, p_bs, c_buse, p_bs, C.1, C.2.2.1]
  simp only [lg_cmp_le, v5_sv, v5_bu, sum_z (hB.nar (by decide) o N.2.1 ht) (by decide), okT, decide_eq_true_eq]
  by_cases h1 : sumv (nar (B 0) (S.1 5 (jj S)) t o) = 0
  · rw [if_pos h1, if_pos (Or.inl h1)]
  · rw [if_neg h1]
    by_cases h2 : buse (S.1 0 3) (nar (B 0) (S.1 5 (jj S)) t o) w = b
    · rw [if_pos h2, if_pos (Or.inr h2)]
    · rw [if_neg h2, if_neg (fun z => z.elim h1 h2)]
def okTT (S : ST) (F : Nat → Int64) (w b t : Int32) : Bool := okT S F w b t 0 && okT S F w b t 1
theorem c_stay {S : ST} {A : Nat → Nat → Int32} (C : Cc S A) (N : Cn S) (k : Nat) (B : Nat → Nat → Int64) (hB : Bd (B 0) 700000000) {t : Int32} (ht : 0 ≤ t ∧ t < 4) (w b : Int32) : ∃ B2, f_X3_staysBest (A, B) t w b (k + 200) = some (okTT S (B 0) w b t, (A, B2)) ∧ B2 0 = B 0 := by
  obtain ⟨B1, h1, e1⟩ := c_stay1 C N k (k + 199) B hB (o := 0) ht w b (by decide)
  obtain ⟨B2, h2, e2⟩ := c_stay1 C N k (k + 198) B1 (by rw [e1]; exact hB) (o := 0 + 1) ht w b (by decide)
  have h1' : f_X3_staysBest_L3 t w b (k + 200) (k + 200) 0 (A, B) = _ := h1
  have h2' : f_X3_staysBest_L3 t w b (k + 200) (k + 199) (0 + 1) (A, B1) = _ := h2
  have h3 : okT S (B1 0) w b t (0 + 1) = okT S (B 0) w b t 1 := by rw [e1]; rfl
  unfold f_X3_staysBest okTT
  rw [h1', h2', h3]
  cases okT S (B 0) w b t 0
  · rw [if_neg (by decide), p_bs]
    exact ⟨B1, rfl, e1⟩
  · rw [if_pos rfl]
    cases okT S (B 0) w b t 1
    · rw [if_neg (by decide), p_bs]
      exact ⟨B2, rfl, e2.trans e1⟩
    · rw [if_pos rfl, f_X3_staysBest_L3, if_pos (by decide), p_bs]
      exact ⟨B2, rfl, e2.trans e1⟩
theorem m_stay1 {S : ST} {A : Nat → Nat → Int32} (C : Cm S A) (k n : Nat) (B : Nat → Nat → Int64) {t o x w b : Int32} (ht : 0 ≤ t ∧ t < 4) (hw : 0 ≤ w ∧ w < 3) (ho : ¬ (2 : Int32) ≤ o) : ∃ B2, f_X4_useless_L48 w b t (k + 200) (n + 1) x o (A, B) = f_X4_useless_L48 w b t (k + 200) n (x &&& (if okT S (B 0) w b t o = true then 1 else 0)) (o + 1) (A, B2) ∧ B2 0 = B 0 := by
  obtain ⟨B1, a1, a2, a3⟩ := m_laysP C.1 k B ht o
  refine ⟨B1, ?_, a2⟩
  rw [f_X4_useless_L48, if_neg ho, a1, p_bs, m_all1, p_bs, m_buse1 k _ hw, p_bs]
  simp only [lg_cmp_eq, okT, decide_eq_true_eq, C.2.1, a3.a, a3.b]
  by_cases h1 : sumv (nar (B 0) (S.1 5 (jj S)) t o) = 0
  · rw [if_pos h1, if_pos (Or.inl h1)]
  · rw [if_neg h1]
    by_cases h2 : buse (S.1 0 3) (nar (B 0) (S.1 5 (jj S)) t o) w = b
    · rw [if_pos h2, if_pos (Or.inr h2)]
    · rw [if_neg h2, if_neg (fun z => z.elim h1 h2)]
theorem m_stay {S : ST} {A : Nat → Nat → Int32} (C : Cm S A) (k : Nat) (B : Nat → Nat → Int64) {t w b : Int32} (ht : 0 ≤ t ∧ t < 4) (hw : 0 ≤ w ∧ w < 3) : ∃ q B2, f_X4_useless_L48 w b t (k + 200) (k + 200) 1 0 (A, B) = some (b2i (okTT S (B 0) w b t), q, (A, B2)) ∧ B2 0 = B 0 := by
  obtain ⟨B1, h1, e1⟩ := m_stay1 C k (k + 199) B (x := 1) (b := b) (o := 0) ht hw (by decide)
  obtain ⟨B2, h2, e2⟩ := m_stay1 C k (k + 198) B1 (x := 1 &&& (if okT S (B 0) w b t 0 = true then 1 else 0)) (b := b) (o := 0 + 1) ht hw (by decide)
  have h1' : f_X4_useless_L48 w b t (k + 200) (k + 200) 1 0 (A, B) = _ := h1
  have h2' : f_X4_useless_L48 w b t (k + 200) (k + 199) _ (0 + 1) (A, B1) = _ := h2
  have h3 : okT S (B1 0) w b t (0 + 1) = okT S (B 0) w b t 1 := by rw [e1]; rfl
  refine ⟨0 + 1 + 1, B2, ?_, e2.trans e1⟩
  unfold okTT
  rw [h1', h2', h3, f_X4_useless_L48, if_pos (by decide)]
  cases okT S (B 0) w b t 0 <;> cases okT S (B 0) w b t 1 <;> rfl
def ub (ok : Int32 → Bool) (x u : Int32) : Int32 := if ok u = true then x ||| ((1 : Int32) <<< (u &&& 31)) else x
def ubb (ok : Int32 → Bool) : Int32 := ub ok (ub ok (ub ok (ub ok 0 0) 1) 2) 3
theorem c_us {S : ST} {A : Nat → Nat → Int32} (C : Cc S A) (N : Cn S) (k n : Nat) (B : Nat → Nat → Int64) (hB : Bd (B 0) 700000000) {u u2 : Int32} (w b x : Int32) (hu : 0 ≤ u ∧ u < 4) (e : u + 1 = u2) : ∃ B2, f_X3_useless_L44 w b (k + 200) (n + 1) x u (A, B) = f_X3_useless_L44 w b (k + 200) n (ub (okTT S (B 0) w b) x u) u2 (A, B2) ∧ B2 0 = B 0 := by
  obtain ⟨B2, h1, h2⟩ := c_stay C N k B hB hu w b
  refine ⟨B2, ?_, h2⟩
  rw [f_X3_useless_L44, if_neg (by grind), h1, p_bs, e, ub]
  cases okTT S (B 0) w b u <;> rfl
theorem m_us {S : ST} {A : Nat → Nat → Int32} (C : Cm S A) (k n : Nat) (B : Nat → Nat → Int64) {u u2 w b : Int32} (x : Int32) (hw : 0 ≤ w ∧ w < 3) (hu : 0 ≤ u ∧ u < 4) (e : u + 1 = u2) : ∃ B2, f_X4_useless_L36 w b (k + 200) (n + 1) x u (A, B) = f_X4_useless_L36 w b (k + 200) n (ub (okTT S (B 0) w b) x u) u2 (A, B2) ∧ B2 0 = B 0 := by
  obtain ⟨q, B2, h1, h2⟩ := m_stay C k B (b := b) hu hw
  refine ⟨B2, ?_, h2⟩
  rw [f_X4_useless_L36, if_neg (by grind), h1, p_bs, e, ub]
  cases okTT S (B 0) w b u
  · rw [if_pos (show b2i false = 0 by decide), Int32.or_zero, if_neg (by decide)]
  · rw [if_neg (show ¬ b2i true = 0 by decide), if_pos rfl]
theorem c_us4 {S : ST} {A : Nat → Nat → Int32} (C : Cc S A) (N : Cn S) (k : Nat) (B : Nat → Nat → Int64) (hB : Bd (B 0) 700000000) (w b : Int32) : ∃ B2, f_X3_useless_L44 w b (k + 200) (k + 200) 0 0 (A, B) = some (ubb (okTT S (B 0) w b), 4, (A, B2)) ∧ B2 0 = B 0 := by
  obtain ⟨B1, h1, e1⟩ := c_us C N k (k + 199) B hB (u := 0) (u2 := 1) w b 0 (by decide) (by decide)
  obtain ⟨B2, h2, e2⟩ := c_us C N k (k + 198) B1 (by rw [e1]; exact hB) (u := 1) (u2 := 2) w b (ub (okTT S (B 0) w b) 0 0) (by decide) (by decide)
  rw [e1] at h2 e2
  obtain ⟨B3, h3, e3⟩ := c_us C N k (k + 197) B2 (by rw [e2]; exact hB) (u := 2) (u2 := 3) w b (ub (okTT S (B 0) w b) (ub (okTT S (B 0) w b) 0 0) 1) (by decide) (by decide)
  rw [e2] at h3 e3
  obtain ⟨B4, h4, e4⟩ := c_us C N k (k + 196) B3 (by rw [e3]; exact hB) (u := 3) (u2 := 4) w b (ub (okTT S (B 0) w b) (ub (okTT S (B 0) w b) (ub (okTT S (B 0) w b) 0 0) 1) 2) (by decide) (by decide)
  rw [e3] at h4 e4
  refine ⟨B4, h1.trans (h2.trans (h3.trans (h4.trans ?_))), e4⟩
  rw [f_X3_useless_L44, if_pos (by decide)]
  rfl
theorem m_us4 {S : ST} {A : Nat → Nat → Int32} (C : Cm S A) (k : Nat) (B : Nat → Nat → Int64) {w b : Int32} (hw : 0 ≤ w ∧ w < 3) : ∃ B2, f_X4_useless_L36 w b (k + 200) (k + 200) 0 0 (A, B) = some (ubb (okTT S (B 0) w b), 4, (A, B2)) ∧ B2 0 = B 0 := by
  obtain ⟨B1, h1, e1⟩ := m_us C k (k + 199) B (u := 0) (u2 := 1) (b := b) 0 hw (by decide) (by decide)
  obtain ⟨B2, h2, e2⟩ := m_us C k (k + 198) B1 (u := 1) (u2 := 2) (b := b) (ub (okTT S (B 0) w b) 0 0) hw (by decide) (by decide)
  rw [e1] at h2 e2
  obtain ⟨B3, h3, e3⟩ := m_us C k (k + 197) B2 (u := 2) (u2 := 3) (b := b) (ub (okTT S (B 0) w b) (ub (okTT S (B 0) w b) 0 0) 1) hw (by decide) (by decide)
  rw [e2] at h3 e3
  obtain ⟨B4, h4, e4⟩ := m_us C k (k + 196) B3 (u := 3) (u2 := 4) (b := b) (ub (okTT S (B 0) w b) (ub (okTT S (B 0) w b) (ub (okTT S (B 0) w b) 0 0) 1) 2) hw (by decide) (by decide)
  rw [e3] at h4 e4
  refine ⟨B4, h1.trans (h2.trans (h3.trans (h4.trans ?_))), e4⟩
  rw [f_X4_useless_L36, if_pos (by decide)]
  rfl
theorem ok_E5 {F G : Nat → Int64} (h : E5 F G) (S : ST) (w b : Int32) : okTT S F w b = okTT S G w b := by
  funext t
  unfold okTT okT
  rw [(h.nar (S.1 5 (jj S)) t 0).a, (h.nar (S.1 5 (jj S)) t 1).a, (h.nar (S.1 5 (jj S)) t 0).b, (h.nar (S.1 5 (jj S)) t 1).b]
theorem o_useless {S M : ST} (R : Rel S M) (k : Nat) (w : Int32) : O2 (f_X3_useless S w (k + 200)) (f_X4_useless M w (k + 200)) := by
  unfold f_X3_useless f_X4_useless
  rw [m_notBest R]
  refine o_int R k _ _ fun h0 _ hj => ?_
  obtain ⟨S2, M2, h1, h2, T⟩ := think_both R hj k
  rw [h1, h2, p_bs, p_bs]
  obtain ⟨C, D, N⟩ := T.cc R hj
  have hF : Bd (S2.2 0) 700000000 := (TV_bd R hj).of T.2.2.2.1
  obtain ⟨A, B⟩ := S2
  obtain ⟨A4, B4⟩ := M2
  rw [c_buse, p_bs, m_buse0 k _ (one_iff.mp h0), p_bs]
  obtain ⟨B2, a1, a2⟩ := c_us4 C N k B hF w (buse (A 0 3) (B 0) w)
  obtain ⟨B3, b1, b2⟩ := m_us4 D k B4 (b := buse (A4 0 4) (B4 0) w) (one_iff.mp h0)
  rw [a1, b1, p_bs, p_bs]
  refine ⟨_, (A, B2), (A4, B3), rfl, ?_, R.frame T.2.1 (fun r _ => by rw [T.2.2.1])⟩
  have e5 := T.2.2.2.2.2.2.2.1
  have e6 := T.2.2.2.2.2.2.2.2
  dsimp only at e5 e6
  rw [e5, e6, T.2.2.2.1.b, T.2.2.2.2.1.b, ok_E5 T.2.2.2.1, ok_E5 T.2.2.2.2.1]
