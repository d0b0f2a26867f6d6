/-! what a look is worth -/
theorem v5_bs {F G : Nat → Int64} {pr w : Int32} : bsum pr (v5 F G) w = bsum pr G w := E5.v.s pr w
theorem v5_bu {F G : Nat → Int64} {pr w : Int32} : buse pr (v5 F G) w = buse pr G w := E5.v.b pr w
theorem v5_sv {F G : Nat → Int64} : sumv (v5 F G) = sumv G := E5.v.a
theorem kLS_20 {K : Nat → Nat → Int64} {r : Nat → Int64} : kLS K 2 r 0 = K 0 := rfl
theorem kLS_21 {K : Nat → Nat → Int64} {r : Nat → Int64} : kLS K 2 r 1 = K 1 := rfl
theorem kLS_22 {K : Nat → Nat → Int64} {r : Nat → Int64} : kLS K 2 r 2 = r := rfl
theorem kLS_10 {K : Nat → Nat → Int64} {r : Nat → Int64} : kLS K 1 r 0 = K 0 := rfl
theorem kLS_11 {K : Nat → Nat → Int64} {r : Nat → Int64} : kLS K 1 r 1 = r := rfl
theorem kLS_12 {K : Nat → Nat → Int64} {r : Nat → Int64} : kLS K 1 r 2 = K 2 := rfl
def cT (pr cp cs kd : Int32) (F : Nat → Int64) (t w : Int32) : Int64 := Int32.toInt64 ((-10) * cp) * bsum pr F w + Int32.toInt64 cp * bsum pr (nar F kd t 0) w + Int32.toInt64 cp * bsum pr (nar F kd t 1) w - Int32.toInt64 (10 * cs) * sumv F
theorem c_tw0 (k : Nat) (A : Nat → Nat → Int32) (B : Nat → Nat → Int64) (t w : Int32) : ∃ B2, f_X3_testWorth_0 (A, B) t w (k + 200) = some (cT (A 0 3) (A 34 2) (f_X1_costOf (A 3) t) (A 34 0) (B 0) t w, (A, B2)) ∧ B2 0 = B 0 ∧ B2 1 = B 1 := by
  unfold f_X3_testWorth_0
  dsimp only
  rw [c_bsum, p_bs, f_X3_testWorth_0_L26, if_neg (by decide), c_narrow, p_bs, c_bsum, p_bs, f_X3_testWorth_0_L26, if_neg (by decide), c_narrow, p_bs, c_bsum, p_bs, f_X3_testWorth_0_L26, if_pos (by decide), p_bs, c_sumAll, p_bs]
  dsimp only
  simp only [v5_bs, kLS_20, kLS_21, cT]
  exact ⟨_, rfl, rfl, rfl⟩
theorem c_tw1 (k : Nat) (A : Nat → Nat → Int32) (B : Nat → Nat → Int64) (t w : Int32) : ∃ B2, f_X3_testWorth_1 (A, B) t w (k + 200) = some (cT (A 0 3) (A 34 2) (f_X1_costOf (A 3) t) (A 34 0) (B 1) t w, (A, B2)) ∧ B2 0 = B 0 ∧ B2 1 = B 1 := by
  unfold f_X3_testWorth_1
  dsimp only
  rw [c_bsum, p_bs, f_X3_testWorth_1_L26, if_neg (by decide), c_narrow, p_bs, c_bsum, p_bs, f_X3_testWorth_1_L26, if_neg (by decide), c_narrow, p_bs, c_bsum, p_bs, f_X3_testWorth_1_L26, if_pos (by decide), p_bs, c_sumAll, p_bs]
  dsimp only
  simp only [v5_bs, kLS_20, kLS_21, cT]
  exact ⟨_, rfl, rfl, rfl⟩
theorem m_bb0 {A : Nat → Nat → Int32} {kd pt cp : Int32} (h : HM A kd pt cp) (k : Nat) (B : Nat → Nat → Int64) {t w : Int32} (ht : 0 ≤ t ∧ t < 4) (hw : 0 ≤ w ∧ w < 3) : ∃ B2, f_X4_bestBehind_0 (A, B) t w (k + 200) = some (bsum (A 0 4) (nar (B 0) kd t 1) w + bsum (A 0 4) (nar (B 0) kd t 0) w, (A, B2)) ∧ B2 0 = B 0 ∧ B2 1 = B 1 := by
  unfold f_X4_bestBehind_0
  rw [m_lays0 h k B ht 1, p_bs, m_bsum2 k _ hw, p_bs, m_lays0 h k _ ht 0, p_bs, m_bsum2 k _ hw, p_bs]
  dsimp only
  simp only [v5_bs, kLS_20, kLS_21, kLS_22]
  exact ⟨_, rfl, rfl, rfl⟩
theorem m_bb1 {A : Nat → Nat → Int32} {kd pt cp : Int32} (h : HM A kd pt cp) (k : Nat) (B : Nat → Nat → Int64) {t w : Int32} (ht : 0 ≤ t ∧ t < 4) (hw : 0 ≤ w ∧ w < 3) : ∃ B2, f_X4_bestBehind_1 (A, B) t w (k + 200) = some (bsum (A 0 4) (nar (B 1) kd t 1) w + bsum (A 0 4) (nar (B 1) kd t 0) w, (A, B2)) ∧ B2 0 = B 0 ∧ B2 1 = B 1 := by
  unfold f_X4_bestBehind_1
  rw [m_lays1 h k B ht 1, p_bs, m_bsum2 k _ hw, p_bs, m_lays1 h k _ ht 0, p_bs, m_bsum2 k _ hw, p_bs]
  dsimp only
  simp only [v5_bs, kLS_20, kLS_21, kLS_22]
  exact ⟨_, rfl, rfl, rfl⟩
theorem m_laysP {A : Nat → Nat → Int32} {kd pt cp : Int32} (h : HM A kd pt cp) (k : Nat) (B : Nat → Nat → Int64) {t : Int32} (ht : 0 ≤ t ∧ t < 4) (o : Int32) : ∃ B2, f_X4_laysParts (A, B) t o (k + 200) = some (A, B2) ∧ B2 0 = B 0 ∧ E5 (B2 1) (nar (B 0) kd t o) := by
  unfold f_X4_laysParts
  rw [m_lays0 h k B ht o, p_bs]
  have e : ∀ (B : Nat → Nat → Int64) (r q : Nat → Int64), kLS (kLS B 1 r) 1 q = kLS B 1 q := fun B r q => by
    funext b
    unfold kLS
    split <;> rfl
  have g : ∀ B : Nat → Nat → Int64, f_X4_laysParts_L12 (k + 200) (k + 200) 0 (A, B) = some (5, (A, kLS B 1 (v5 (B 1) (B 2)))) := fun B => by
    rw [← v5_up]
    simp [f_X4_laysParts_L12, e, kLS_11, kLS_12]
  rw [g, p_bs]
  refine ⟨_, rfl, rfl, ?_⟩
  rw [kLS_11, kLS_22]
  exact E5.trans E5.v E5.v
def mB (pr kd : Int32) (F : Nat → Int64) (t w : Int32) : Int64 := bsum pr (nar F kd t 1) w + bsum pr (nar F kd t 0) w
def mT (pr cp cs kd : Int32) (F : Nat → Int64) (t w : Int32) : Int64 := (mB pr kd F t w - 10 * bsum pr F w) * Int32.toInt64 cp - (10 * sumv F) * Int32.toInt64 cs
theorem m_look {A : Nat → Nat → Int32} {kd pt cp : Int32} (h : HM A kd pt cp) (k : Nat) (B : Nat → Nat → Int64) {t w : Int32} (ht : 0 ≤ t ∧ t < 4) (hw : 0 ≤ w ∧ w < 3) : ∃ B2, f_X4_lookParts (A, B) t w (k + 200) = some (mT (A 0 4) cp (A 6 (Int32.toNatClampNeg t)) kd (B 0) t w, (A, B2)) ∧ B2 0 = B 0 := by
  unfold f_X4_lookParts
  obtain ⟨B2, h1, h2, h3⟩ := m_bb0 h k B ht hw
  rw [m_bsum0 k _ hw, p_bs, h1, p_bs, if_neg h.nb, m_all0, p_bs, if_neg (p_nb (n := 4) (by decide) ht.1 ht.2)]
  dsimp only
  rw [h2, h.2.2.2.1]
  exact ⟨B2, rfl, h2⟩
theorem p_m10 : ∀ a : Fin 10, Int32.toInt64 ((-10) * Int32.ofNat a.1) = (-10) * Int32.toInt64 (Int32.ofNat a.1) ∧ Int32.toInt64 (10 * Int32.ofNat a.1) = 10 * Int32.toInt64 (Int32.ofNat a.1) := by decide +kernel
theorem p_m10a {c : Int32} (h : 0 ≤ c ∧ c ≤ 9) : Int32.toInt64 ((-10) * c) = (-10) * Int32.toInt64 c ∧ Int32.toInt64 (10 * c) = 10 * Int32.toInt64 c := by
  obtain ⟨a, ha, rfl⟩ := p_ix (n := 10) (by decide) h.1 (show c < 10 by grind)
  exact p_m10 ⟨a, ha⟩
theorem cT_mT {pr cp cs kd : Int32} {F : Nat → Int64} {t w : Int32} (h1 : 0 ≤ cp ∧ cp ≤ 9) (h2 : 0 ≤ cs ∧ cs ≤ 9) : cT pr cp cs kd F t w = mT pr cp cs kd F t w := by
  unfold cT mT mB
  rw [(p_m10a h1).1, (p_m10a h2).2]
  grind
theorem E5.t {F G : Nat → Int64} (h : E5 F G) (pr cp cs kd t w : Int32) : cT pr cp cs kd F t w = cT pr cp cs kd G t w := by
  unfold cT
  rw [h.s, (h.nar kd t 0).s, (h.nar kd t 1).s, h.a]
theorem E5.t2 {F G : Nat → Int64} (h : E5 F G) (pr cp cs kd t w : Int32) : mT pr cp cs kd F t w = mT pr cp cs kd G t w := by
  unfold mT mB
  rw [h.s, (h.nar kd t 0).s, (h.nar kd t 1).s, h.a]
/-- what a call about the one in hand stands on: the numbers of both sides -/
def Cx2 (S M S2 M2 : ST) : Prop := (∀ t : Int32, (0 ≤ t ∧ t < 4) → f_X1_costOf (S2.1 3) t = S.1 3 (Int32.toNatClampNeg t) ∧ M2.1 6 (Int32.toNatClampNeg t) = S.1 3 (Int32.toNatClampNeg t) ∧ 0 ≤ S.1 3 (Int32.toNatClampNeg t) ∧ S.1 3 (Int32.toNatClampNeg t) ≤ 9) ∧ (0 ≤ S.1 7 (jj S) ∧ S.1 7 (jj S) ≤ 9) ∧ (0 ≤ S.1 5 (jj S) ∧ S.1 5 (jj S) < 6) ∧ (0 ≤ S.1 0 3 ∧ S.1 0 3 ≤ 9)
theorem Tk.cx {S M S2 M2 : ST} (T : Tk S M S2 M2) (R : Rel S M) (hj : jIn (S.1 0 0) (S.1 0 1)) : Cx2 S M S2 M2 := by
  have g := R.at hj
  refine ⟨fun t ht => ?_, ⟨by have := g.2.2.2.2.2.1.1; unfold jj; grind, g.2.2.2.2.2.1.2⟩, g.2.2.2.1, R.g.1.2.2.2.1⟩
  obtain ⟨j, hj4, rfl⟩ := p_ix (n := 4) (by decide) ht.1 ht.2
  unfold f_X1_costOf
  rw [p_at (by decide) hj4, p_tn (by omega), T.2.1 3 (by decide) (by decide), T.2.2.1]
  exact ⟨rfl, (R.k.2.2.1 j hj4).1.symm, (R.g.2.2.1 j hj4).1⟩
/-- what the test t is worth for w, of the thoughts F, as both sides count it -/
def gT2 (S : ST) (F : Nat → Int64) (t w : Int32) : Int64 := cT (S.1 0 3) (S.1 7 (jj S)) (S.1 3 (Int32.toNatClampNeg t)) (S.1 5 (jj S)) F t w
theorem o_looking {S M : ST} (R : Rel S M) (k : Nat) (p0 p1 p2 : Int32) : O3 (f_X3_looking S p0 p1 p2 (k + 200)) (f_X4_looking M p0 p1 p2 (k + 200)) := by
  unfold f_X3_looking f_X4_looking
  rw [m_isTest, m_isIn1, m_isWhom]
  cases h0 : f_X3_isOneOf p0 4
  · simp only [b2i_f0, if_true, rih_f]
    rw [if_neg (by decide)]
    exact ref_long R (Or.inl rfl) k
  cases hw : f_X3_isOneOf p1 3
  · simp only [b2i_f0, b2i_t0, if_true, if_false, rih_f]
    rw [if_neg (by decide)]
    exact ref_long R (Or.inl rfl) k
  simp only [b2i_t0, if_false]
  rw [m_ref1' R]
  refine o_long R k _ _ fun _ _ hj => ?_
  obtain ⟨S2, M2, h1, h2, T⟩ := think_both R hj k
  have X := T.cx R hj
  have HM2 := T.2.2.2.2.2.2.1
  have h0' := one_iff.mp h0
  have hw' := one_iff.mp hw
  rw [h1, h2, p_bs, p_bs]
  obtain ⟨A, B⟩ := S2
  obtain ⟨A4, B4⟩ := M2
  obtain ⟨B2, a1, a2, a3⟩ := c_tw0 k A B p0 p1
  obtain ⟨B3, b1, b2⟩ := m_look HM2 k B4 h0' hw'
  rw [a1, b1, p_bs, p_bs, c_sumAll, p_bs, c_frac, p_bs, m_all0, p_bs, m_frac, p_bs]
  dsimp only
  refine ⟨_, (A, B2), (A4, B3), rfl, ?_, R.frame T.2.1 (fun r _ => by rw [T.2.2.1])⟩
  have e1 := (X.1 p0 h0').1
  have e2 := (X.1 p0 h0').2.1
  have e3 := T.2.2.2.2.2.1.2.2.1
  have e4 := T.2.2.2.2.2.1.1
  have e5 := T.2.2.2.2.2.2.2.1
  have e6 := T.2.2.2.2.2.2.2.2
  dsimp only at e1 e2 e3 e4 e5 e6
  rw [a2, b2, e1, e2, e3, e4, e5, e6, T.2.2.2.1.t, T.2.2.2.2.1.t2, T.2.2.2.1.a, T.2.2.2.2.1.a, cT_mT X.2.1 (X.1 p0 h0').2.2]
