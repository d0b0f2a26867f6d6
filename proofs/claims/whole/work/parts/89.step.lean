/-! a statement comes, on both sides, whatever its letter -/
theorem m_cm (k : Nat) (A : Nat → Nat → Int32) (B : Nat → Nat → Int64) {t : Nat} (ht : t < 48) {b v0 v1 : Int32} (eb : A 11 t = b) (e0 : A 13 (4 * t) = v0) (e1 : A 13 (4 * t + 1) = v1) : f_X4_comes (A, B) (Int32.ofNat t) (k + 200) =
  if b = 99 then (f_X4_allStand (A, B) v0 (k + 200)).bind fun v1 => some (true, v1)
  else if b = 104 then (if (b2i (f_X4_isJug (A, B) v0)) = 0 then some (false, (A, B)) else some (true, ((kS A 0 (upd (upd (A 0) 1 v0) 2 0)), B)))
  else if b = 106 then (f_X4_comesJug (A, B) (Int32.ofNat (4 * t)) (k + 200)).bind fun v2 => some (v2.1, v2.2)
  else if b = 112 then some (true, ((kS A 0 (upd (A 0) 4 v0)), B))
  else if b = 115 then (f_X4_comesSeen (A, B) v0 v1 (k + 200)).bind fun v3 => some (v3.1, v3.2)
  else if b = 116 then (if v0 < 4 then if v0 < 0 ∨ 4 ≤ (Int32.toNatClampNeg v0) then none else some (true, ((kS A 6 (upd (A 6) (Int32.toNatClampNeg v0) v1)), B)) else some (false, (A, B)))
  else if b = 119 then (if (b2i (f_X4_isJug (A, B) v0)) = 0 then some (false, (A, B)) else (f_X4_warmOf (A, B) v0 (k + 200)).bind fun v4 => (f_X4_gains (A, B) v0 (v4 * v1) (k + 200)).bind fun v5 => some (true, v5))
  else (f_X4_comesUse (A, B) v0 (k + 200)).bind fun v6 => some (v6.1, v6.2) := by
  have s0 : 4 * Int32.ofNat t = Int32.ofNat (4 * t) := (Int32.ofNat_mul 4 t).symm
  have s1 : Int32.ofNat (4 * t) + 1 = Int32.ofNat (4 * t + 1) := p_add (4 * t) 1
  have b0 : (Int32.ofNat (4 * t) < 0 ∨ 192 ≤ 4 * t) = False := eq_false (p_nbi (by omega) (by decide))
  have b1 : (Int32.ofNat (4 * t + 1) < 0 ∨ 192 ≤ 4 * t + 1) = False := eq_false (p_nbi (by omega) (by decide))
  have b2 : (Int32.ofNat t < 0 ∨ 48 ≤ t) = False := eq_false (p_nbi (by omega) (by decide))
  have t0 : Int32.toNatClampNeg (Int32.ofNat (4 * t)) = 4 * t := p_tn (by omega)
  have t1 : Int32.toNatClampNeg (Int32.ofNat (4 * t + 1)) = 4 * t + 1 := p_tn (by omega)
  have t2 : Int32.toNatClampNeg (Int32.ofNat t) = t := p_tn (by omega)
  unfold f_X4_comes
  dsimp only
  simp only [s0, s1, t0, t1, t2, b0, b1, b2, if_false, e0, e1, eb]
theorem vl1 (T : Nat → Int32) (p : Nat) : vl T 1 p 0 = T p - 48 := by
  unfold vl vl
  grind
theorem vl2 (T : Nat → Int32) (p : Nat) : vl T 2 p 0 = 10 * (T p - 48) + (T (p + 1) - 48) := by
  unfold vl vl vl
  grind
theorem vl3 (T : Nat → Int32) (p : Nat) : vl T 3 p 0 = (T p - 48) * 100 + (10 * (T (p + 1) - 48) + (T (p + 1 + 1) - 48)) := by
  unfold vl vl vl vl
  grind
theorem dig_in {x : Int32} (h : 48 ≤ x ∧ x ≤ 57) : 0 ≤ x - 48 ∧ x - 48 ≤ 9 := by
  have h1 := h.1
  have h2 := h.2
  constructor <;> grind
theorem two_in {a b : Int32} (ha : 0 ≤ a ∧ a ≤ 9) (hb : 0 ≤ b ∧ b ≤ 9) : 0 ≤ 10 * a + b ∧ 10 * a + b ≤ 99 := by
  obtain ⟨h1, h2⟩ := ha
  obtain ⟨h3, h4⟩ := hb
  constructor <;> grind
theorem three_in {c a b : Int32} (hc : 0 ≤ c ∧ c ≤ 9) (ha : 0 ≤ a ∧ a ≤ 9) (hb : 0 ≤ b ∧ b ≤ 9) : 0 ≤ c * 100 + (10 * a + b) ∧ c * 100 + (10 * a + b) ≤ 999 := by
  obtain ⟨h1, h2⟩ := ha
  obtain ⟨h3, h4⟩ := hb
  obtain ⟨h5, h6⟩ := hc
  constructor <;> grind
theorem cm_step (k n : Nat) {t p : Nat} {b : Int32} {S : ST} {A : Nat → Nat → Int32} (B : Nat → Nat → Int64) (y : Nat → Nat → Nat) (R : KR (kR S.1 1) A) (hn : n ≤ 96) (ht : t < 48) (el : ∀ z, z < 96 → S.1 31 z = A 10 z) (hp : p + dgn b + 2 ≤ n) (hb : A 10 p = b) (hv : vld b) (hd : ∀ z, p + 1 ≤ z → z < p + 1 + dgn b → 48 ≤ A 10 z ∧ A 10 z ≤ 57) (r2 : A 11 t = b) (r4 : ∀ i, i < gn b → A 13 (4 * t + i) = gv b (A 10) (p + 1) i) : CM S A B (f_X3_statementComes y S (Int32.ofNat p) (k + 200)) (f_X4_comes (A, B) (Int32.ofNat t) (k + 200)) := by
  have hl : f_X3_letterAt S (Int32.ofNat p) = b := by
    unfold f_X3_letterAt
    rw [p_at (by decide) (by omega), el p (by omega)]
    exact hb
  have hw : ∀ i, i < dgn b → 0 ≤ A 10 (p + 1 + i) - 48 ∧ A 10 (p + 1 + i) - 48 ≤ 9 := fun i hi => dig_in (hd _ (by omega) (by omega))
  have hD : ∀ i, i < dgn b → ∀ x, x = Int32.ofNat (p + 1 + i) → f_X3_digitAt S x = A 10 (p + 1 + i) - 48 := fun i hi x hx => by
    unfold f_X3_digitAt f_X3_letterAt
    rw [hx, p_at (by decide) (by omega), el _ (by omega)]
  have x1 : Int32.ofNat p + 1 = Int32.ofNat (p + 1 + 0) := p_add p 1
  have x2 : Int32.ofNat p + 2 = Int32.ofNat (p + 1 + 1) := p_add p 2
  have x3 : Int32.ofNat p + 3 = Int32.ofNat (p + 1 + 2) := p_add p 3
  have x4 : Int32.ofNat p + 4 = Int32.ofNat (p + 1 + 3) := p_add p 4
  have x5 : Int32.ofNat p + 5 = Int32.ofNat (p + 1 + 4) := p_add p 5
  have x11 : Int32.ofNat p + 1 + 1 = Int32.ofNat (p + 1 + 1) := by rw [x1]; exact p_add (p + 1) 1
  have x21 : Int32.ofNat p + 2 + 1 = Int32.ofNat (p + 1 + 2) := by rw [x2]; exact p_add (p + 1 + 1) 1
  have x51 : Int32.ofNat p + 5 + 1 = Int32.ofNat (p + 1 + 5) := by rw [x5]; exact p_add (p + 1 + 4) 1
  unfold f_X3_statementComes
  rw [m_cm k A B ht r2 rfl rfl, hl]
  rcases hv with rfl | rfl | rfl | rfl | rfl | rfl | rfl | rfl
  · have g : dgn 106 = 6 := by decide
    have g2 : gn 106 = 4 := by decide
    rw [g] at hw hD
    rw [g2] at r4
    rw [if_neg (by decide), if_neg (by decide), if_pos rfl, if_neg (by decide), if_neg (by decide), if_pos rfl]
    unfold f_X3_twoDigitsAt
    rw [hD 0 (by decide) _ x1, hD 1 (by decide) _ x2, hD 2 (by decide) _ x3, hD 3 (by decide) _ x4, hD 4 (by decide) _ x5, hD 5 (by decide) _ x51]
    refine cm_jug B R k y ht (r4 0 (by decide) |>.trans ?_) (r4 1 (by decide) |>.trans ?_) (r4 2 (by decide) |>.trans ?_) (r4 3 (by decide) |>.trans ?_) (hw 0 (by decide)) (hw 1 (by decide)) (hw 2 (by decide)) (three_in (hw 3 (by decide)) (hw 4 (by decide)) (hw 5 (by decide)))
    · unfold gv
      rw [if_neg (by decide)]
      exact vl1 (A 10) _
    · unfold gv
      rw [if_neg (by decide)]
      exact vl1 (A 10) _
    · unfold gv
      exact vl1 (A 10) _
    · unfold gv
      exact vl3 (A 10) _
  · have g : dgn 99 = 2 := by decide
    have g2 : gn 99 = 1 := by decide
    rw [g] at hw hD
    rw [g2] at r4
    rw [if_pos rfl, if_pos rfl]
    unfold f_X3_twoDigitsAt
    rw [hD 0 (by decide) _ x1, hD 1 (by decide) _ x11]
    have h0 : A 13 (4 * t) = 10 * (A 10 (p + 1 + 0) - 48) + (A 10 (p + 1 + 1) - 48) := (r4 0 (by decide)).trans (by
      unfold gv
      rw [if_pos rfl]
      exact vl2 (A 10) _)
    rw [h0]
    exact cm_cold B R k y (two_in (hw 0 (by decide)) (hw 1 (by decide)))
  · have g : dgn 119 = 3 := by decide
    have g2 : gn 119 = 2 := by decide
    rw [g] at hw hD
    rw [g2] at r4
    rw [if_neg (by decide), if_neg (by decide), if_neg (by decide), if_neg (by decide), if_neg (by decide), if_neg (by decide), if_neg (by decide), if_pos rfl]
    rw [if_neg (by decide), if_neg (by decide), if_neg (by decide), if_neg (by decide), if_neg (by decide), if_neg (by decide), if_pos rfl]
    unfold f_X3_twoDigitsAt
    rw [hD 0 (by decide) _ x1, hD 1 (by decide) _ x2, hD 2 (by decide) _ x21]
    have h0 : A 13 (4 * t) = A 10 (p + 1 + 0) - 48 := (r4 0 (by decide)).trans (by
      unfold gv
      rw [if_neg (by decide)]
      exact vl1 (A 10) _)
    have h1 : A 13 (4 * t + 1) = 10 * (A 10 (p + 1 + 1) - 48) + (A 10 (p + 1 + 2) - 48) := (r4 1 (by decide)).trans (by
      unfold gv
      rw [if_pos rfl]
      exact vl2 (A 10) _)
    rw [h0, h1]
    exact cm_warm B R k y (hw 0 (by decide)) (two_in (hw 1 (by decide)) (hw 2 (by decide)))
  · have g : dgn 116 = 2 := by decide
    have g2 : gn 116 = 2 := by decide
    rw [g] at hw hD
    rw [g2] at r4
    rw [if_neg (by decide), if_neg (by decide), if_neg (by decide), if_neg (by decide), if_neg (by decide), if_pos rfl]
    rw [if_neg (by decide), if_neg (by decide), if_neg (by decide), if_neg (by decide), if_neg (by decide), if_pos rfl]
    rw [hD 0 (by decide) _ x1, hD 1 (by decide) _ x2]
    have h0 : A 13 (4 * t) = A 10 (p + 1 + 0) - 48 := (r4 0 (by decide)).trans (by
      unfold gv
      rw [if_neg (by decide)]
      exact vl1 (A 10) _)
    have h1 : A 13 (4 * t + 1) = A 10 (p + 1 + 1) - 48 := (r4 1 (by decide)).trans (by
      unfold gv
      rw [if_neg (by decide)]
      exact vl1 (A 10) _)
    rw [h0, h1]
    exact cm_cost B R y (hw 0 (by decide)) (hw 1 (by decide))
  · have g : dgn 112 = 1 := by decide
    have g2 : gn 112 = 1 := by decide
    rw [g] at hw hD
    rw [g2] at r4
    rw [if_neg (by decide), if_neg (by decide), if_neg (by decide), if_pos rfl]
    rw [if_neg (by decide), if_neg (by decide), if_neg (by decide), if_pos rfl]
    rw [hD 0 (by decide) _ x1]
    have h0 : A 13 (4 * t) = A 10 (p + 1 + 0) - 48 := (r4 0 (by decide)).trans (by
      unfold gv
      rw [if_neg (by decide)]
      exact vl1 (A 10) _)
    rw [h0]
    exact cm_price B R y (hw 0 (by decide))
  · have g : dgn 104 = 1 := by decide
    have g2 : gn 104 = 1 := by decide
    rw [g] at hw hD
    rw [g2] at r4
    rw [if_neg (by decide), if_pos rfl]
    rw [if_neg (by decide), if_pos rfl]
    rw [hD 0 (by decide) _ x1]
    have h0 : A 13 (4 * t) = A 10 (p + 1 + 0) - 48 := (r4 0 (by decide)).trans (by
      unfold gv
      rw [if_neg (by decide)]
      exact vl1 (A 10) _)
    rw [h0]
    exact cm_hand B R y _
  · have g : dgn 115 = 2 := by decide
    have g2 : gn 115 = 2 := by decide
    rw [g] at hw hD
    rw [g2] at r4
    rw [if_neg (by decide), if_neg (by decide), if_neg (by decide), if_neg (by decide), if_pos rfl]
    rw [if_neg (by decide), if_neg (by decide), if_neg (by decide), if_neg (by decide), if_pos rfl]
    rw [hD 0 (by decide) _ x1, hD 1 (by decide) _ x2]
    have h0 : A 13 (4 * t) = A 10 (p + 1 + 0) - 48 := (r4 0 (by decide)).trans (by
      unfold gv
      rw [if_neg (by decide)]
      exact vl1 (A 10) _)
    have h1 : A 13 (4 * t + 1) = A 10 (p + 1 + 1) - 48 := (r4 1 (by decide)).trans (by
      unfold gv
      rw [if_neg (by decide)]
      exact vl1 (A 10) _)
    rw [h0, h1]
    exact cm_seen B R k y (hw 0 (by decide)) (hw 1 (by decide))
  · have g : dgn 117 = 1 := by decide
    have g2 : gn 117 = 1 := by decide
    rw [g] at hw hD
    rw [g2] at r4
    rw [if_neg (by decide), if_neg (by decide), if_neg (by decide), if_neg (by decide), if_neg (by decide), if_neg (by decide), if_pos rfl]
    rw [if_neg (by decide), if_neg (by decide), if_neg (by decide), if_neg (by decide), if_neg (by decide), if_neg (by decide), if_neg (by decide)]
    rw [hD 0 (by decide) _ x1]
    have h0 : A 13 (4 * t) = A 10 (p + 1 + 0) - 48 := (r4 0 (by decide)).trans (by
      unfold gv
      rw [if_neg (by decide)]
      exact vl1 (A 10) _)
    rw [h0]
    exact cm_use B R k y (hw 0 (by decide))
