/-! join -/
def wo (F G : Nat → Int64) : Nat → Int64
  | 0 => F 0 * G 0
  | 1 => (F 0 + F 1) * (G 0 + G 1) - F 0 * G 0
  | 2 => (F 0 + F 1 + F 2) * (G 0 + G 1 + G 2) - (F 0 + F 1) * (G 0 + G 1)
  | 3 => (F 0 + F 1 + F 2 + F 3) * (G 0 + G 1 + G 2 + G 3) - (F 0 + F 1 + F 2) * (G 0 + G 1 + G 2)
  | _ => (F 0 + F 1 + F 2 + F 3 + F 4) * (G 0 + G 1 + G 2 + G 3 + G 4) - (F 0 + F 1 + F 2 + F 3) * (G 0 + G 1 + G 2 + G 3)
theorem c_worse (k : Nat) (F F1 F2 : Nat → Int64) : f_X2_worseOf F F1 F2 (k + 200) = some (v5 F (wo F1 F2)) := by
  have s0 : ∀ G : Nat → Int64, f_X2_sumOf G 0 0 (k + 200) = some (G 0) := fun G => c_sum0 k G
  have s1 : ∀ G : Nat → Int64, f_X2_sumOf G 0 1 (k + 200) = some (G 0 + G 1) := fun G => c_sum01 k G
  have s2 : ∀ G : Nat → Int64, f_X2_sumOf G 0 2 (k + 200) = some (G 0 + G 1 + G 2) := fun G => by simp [f_X2_sumOf, f_X2_sumOf_L9]
  have s3 : ∀ G : Nat → Int64, f_X2_sumOf G 0 3 (k + 200) = some (G 0 + G 1 + G 2 + G 3) := fun G => by simp [f_X2_sumOf, f_X2_sumOf_L9]
  have s4 : ∀ G : Nat → Int64, f_X2_sumOf G 0 4 (k + 200) = some (G 0 + G 1 + G 2 + G 3 + G 4) := fun G => by simp [f_X2_sumOf, f_X2_sumOf_L9]
  have sm : ∀ G : Nat → Int64, f_X2_sumOf G 0 (-1) (k + 200) = some 0 := fun G => by simp [f_X2_sumOf, f_X2_sumOf_L9]
  rw [← v5_up]
  unfold f_X2_worseOf wo
  simp [f_X2_worseOf_L2, s0, s1, s2, s3, s4, sm]
def js (F a b : Nat → Int64) (i j : Nat) : Nat → Int64 := vp_updL F (if i ≤ j then j else i) (F (if i ≤ j then j else i) + a i * b j)
theorem m_joinZ (k : Nat) (A : Nat → Nat → Int32) (B : Nat → Nat → Int64) : f_X4_join_L169 (k + 200) (k + 200) 0 (A, B) = some (5, (A, kLS B 0 (v5 (B 0) (fun _ => 0)))) := by
  have e : ∀ (B : Nat → Nat → Int64) (r q : Nat → Int64), kLS (kLS B 0 r) 0 q = kLS B 0 q := fun B r q => by
    funext b
    unfold kLS
    split <;> rfl
  have e2 : ∀ (B : Nat → Nat → Int64) (r : Nat → Int64), kLS B 0 r 0 = r := fun B r => rfl
  rw [← v5_up]
  simp [f_X4_join_L169, e, e2]
theorem d25 : ∀ i : Fin 25, Int32.ofNat i.1 / 5 = Int32.ofNat (i.1 / 5) ∧ Int32.ofNat i.1 - Int32.ofNat i.1 / 5 * 5 = Int32.ofNat (i.1 % 5) := by decide +kernel
theorem kLS_00 {K : Nat → Nat → Int64} {r : Nat → Int64} : kLS K 0 r 0 = r := rfl
theorem kLS_01 {K : Nat → Nat → Int64} {r : Nat → Int64} : kLS K 0 r 1 = K 1 := rfl
theorem kLS_02 {K : Nat → Nat → Int64} {r : Nat → Int64} : kLS K 0 r 2 = K 2 := rfl
theorem kLS_0s (B : Nat → Nat → Int64) (r q : Nat → Int64) : kLS (kLS B 0 r) 0 q = kLS B 0 q := by
  funext b
  unfold kLS
  split <;> rfl
theorem m_j_step (k n : Nat) (A : Nat → Nat → Int32) (B : Nat → Nat → Int64) (F : Nat → Int64) (i : Nat) (hi : i < 25) : f_X4_join_L192 (k + 200) (n + 1) (Int32.ofNat i) (A, kLS B 0 F) = f_X4_join_L192 (k + 200) n (Int32.ofNat (i + 1)) (A, kLS B 0 (js F (B 1) (B 2) (i / 5) (i % 5))) := by
  have h1 : i / 5 < 5 := by omega
  have h2 : i % 5 < 5 := by omega
  have d := d25 ⟨i, hi⟩
  rw [f_X4_join_L192, if_neg (fun z => by have := (p_le (a := 25) (by omega) (by omega)).mp z; omega), d.2, d.1]
  simp only [p_tn (show i / 5 < 2147483648 by omega), p_tn (show i % 5 < 2147483648 by omega), if_neg (p_nbi h1 (by decide)), if_neg (p_nbi h2 (by decide)), kLS_00, kLS_01, kLS_02, kLS_0s, Int32.ofNat_add]
  unfold js
  by_cases h3 : i / 5 ≤ i % 5
  · rw [if_pos ((p_le (by omega) (by omega)).mpr h3), if_pos h3]
    rfl
  · rw [if_neg (fun z => h3 ((p_le (by omega) (by omega)).mp z)), if_neg h3]
    rfl
def jr (a b F : Nat → Int64) : Nat → Nat → Nat → Int64
  | 0, _ => F
  | m + 1, i => jr a b (js F a b (i / 5) (i % 5)) m (i + 1)
theorem m_jL (k : Nat) (A : Nat → Nat → Int32) (B : Nat → Nat → Int64) : ∀ (m i j : Nat) (F : Nat → Int64), i + m = 25 → ∃ q, f_X4_join_L192 (k + 200) (m + 1 + j) (Int32.ofNat i) (A, kLS B 0 F) = some (q, (A, kLS B 0 (jr (B 1) (B 2) F m i)))
  | 0, i, j, F, h => by
    obtain rfl : i = 25 := by omega
    refine ⟨Int32.ofNat 25, ?_⟩
    rw [show 0 + 1 + j = j + 1 by omega, f_X4_join_L192, if_pos (by decide)]
    rfl
  | m + 1, i, j, F, h => by
    rw [show m + 1 + 1 + j = (m + 1 + j) + 1 by omega, m_j_step k _ A B F i (by omega), jr]
    exact m_jL k A B m (i + 1) j _ (by omega)
theorem jr_wo (a b F : Nat → Int64) (h0 : ∀ i, i < 5 → F i = 0) : E5 (jr a b F 25 0) (wo a b) := fun i hi => by
  have z0 := h0 0 (by decide)
  have z1 := h0 1 (by decide)
  have z2 := h0 2 (by decide)
  have z3 := h0 3 (by decide)
  have z4 := h0 4 (by decide)
  rcases p_i5 hi with rfl | rfl | rfl | rfl | rfl
  · simp [jr, js, vp_updL, wo, z0]
  · simp [jr, js, vp_updL, wo, z1]
    grind
  · simp [jr, js, vp_updL, wo, z2]
    grind
  · simp [jr, js, vp_updL, wo, z3]
    grind
  · simp [jr, js, vp_updL, wo, z4]
    grind
theorem wo_E {F G F2 G2 : Nat → Int64} (h : E5 F F2) (h2 : E5 G G2) : E5 (wo F G) (wo F2 G2) := fun i hi => by
  rcases p_i5 hi with rfl | rfl | rfl | rfl | rfl <;> unfold wo <;> simp only [h 0 (by decide), h 1 (by decide), h 2 (by decide), h 3 (by decide), h 4 (by decide), h2 0 (by decide), h2 1 (by decide), h2 2 (by decide), h2 3 (by decide), h2 4 (by decide)]
theorem id_join2 (cc ca cb b b1 b2 s1 s2 : Int64) : b * cc - b1 * ca * s2 - b2 * cb * s1 = cc * b - (ca * b1 * s2 + cb * b2 * s1) := by grind
theorem o_join {S M : ST} (R : Rel S M) (k : Nat) (p0 p1 w p3 : Int32) : O3 (f_X3_join S p0 p1 w p3 (k + 200)) (f_X4_join M p0 p1 w p3 (k + 200)) := by
  unfold f_X3_join f_X4_join
  rw [R.jug p0, R.jug p1, m_isWhom, m_isIn1]
  by_cases hj : jIn (S.1 0 0) p0
  · rw [if_pos hj, if_neg (fun z => b2i_dec.mp z hj)]
    by_cases hk : jIn (S.1 0 0) p1
    · rw [if_pos hk, if_neg (fun z => b2i_dec.mp z hk)]
      by_cases he : p0 = p1
      · rw [if_pos he, if_pos he]
        exact ref_long R (Or.inl rfl) k
      rw [if_neg he, if_neg he]
      cases hw : f_X3_isOneOf w 3
      · simp only [b2i_f0, if_true]
        exact ref_long R (Or.inl rfl) k
      cases hp : f_X3_isOneOf p3 2
      · simp only [b2i_f0, b2i_t0, if_true, if_false]
        exact ref_long R (Or.inr (Or.inl rfl)) k
      simp only [b2i_t0, if_false]
      have hw' := one_iff.mp hw
      have g := R.at hj
      have g' := R.at hk
      have hb := p_nb (n := 5) (by decide) g.2.1.1 g.2.1.2
      have hb' := p_nb (n := 5) (by decide) g'.2.1.1 g'.2.1.2
      have ep : M.1 0 4 = S.1 0 3 := R.k.1.2.2.2.1.symm
      have RR : ∀ B B4, Rel (S.1, B) (M.1, B4) := fun B B4 => R.frame (fun _ _ _ => rfl) (fun _ _ => rfl)
      obtain ⟨A, B⟩ := M
      dsimp only at ep g g' RR ⊢
      obtain ⟨B1, a1, a2, -, -⟩ := m_lw1 (A := A) k B g.2.1 (A 5 (Int32.toNatClampNeg p0))
      obtain ⟨B2, b1, b2, -, b4⟩ := m_lw2 (A := A) k B1 g'.2.1 (A 5 (Int32.toNatClampNeg p1))
      obtain ⟨q, d1⟩ := m_all2 k (A, B2)
      obtain ⟨q2, e1⟩ := m_jL k A B2 25 0 (k + 174) (v5 (B2 0) (fun _ => 0)) (by decide)
      rw [show 25 + 1 + (k + 174) = k + 200 by omega] at e1
      have e1' : f_X4_join_L192 (k + 200) (k + 200) 0 (A, kLS B2 0 (v5 (B2 0) (fun _ => 0))) = _ := e1
      rw [c_weigh, p_bs, c_weigh, p_bs, c_worse, p_bs, c_sumAll, p_bs, c_sumAll, p_bs, c_bsum, p_bs, c_bsum, p_bs, c_bsum, p_bs, c_frac, p_bs]
      rw [if_neg hb, a1, p_bs, m_all1, p_bs, m_bsum1 k _ hw', p_bs]
      dsimp only
      rw [if_neg hb, if_neg hb', b1, p_bs, d1, p_bs, m_bsum2 k _ hw', p_bs, if_neg hb', m_joinZ, p_bs]
      dsimp only
      rw [e1', p_bs, m_bsum0 k _ hw', p_bs]
      dsimp only
      rw [if_neg hb, if_neg hb', m_frac, p_bs]
      refine ⟨_, _, _, rfl, ?_, RR _ (kLS B2 0 (jr (B2 1) (B2 2) (v5 (B2 0) (fun _ => 0)) 25 0))⟩
      have f1 : E5 (B1 1) (wv (S.1 5 (Int32.toNatClampNeg p0)) (S.1 8 (Int32.toNatClampNeg p0))) := by
        rw [g.2.2.1.1, g.2.2.1.2.2.2]
        exact a2
      have f2 : E5 (B2 2) (wv (S.1 5 (Int32.toNatClampNeg p1)) (S.1 8 (Int32.toNatClampNeg p1))) := by
        rw [g'.2.2.1.1, g'.2.2.1.2.2.2]
        exact b2
      have f0 : E5 (kLS B2 0 (jr (B2 1) (B2 2) (v5 (B2 0) (fun _ => 0)) 25 0) 0) (wo (wv (S.1 5 (Int32.toNatClampNeg p0)) (S.1 8 (Int32.toNatClampNeg p0))) (wv (S.1 5 (Int32.toNatClampNeg p1)) (S.1 8 (Int32.toNatClampNeg p1)))) := by
        rw [kLS_00]
        refine (jr_wo (B2 1) (B2 2) _ (fun i hi => E5.v i hi)).trans ?_
        rw [b4]
        exact wo_E f1 f2
      rw [f0.s, f1.s, f1.a, f2.s, f2.a, ep, v5_sv, v5_sv, v5_bs, v5_bs, v5_bs, (wo_E (E5.v (F := S.2 1)) (E5.v (F := S.2 2))).s, ← g.2.2.1.2.2.1, ← g'.2.2.1.2.2.1, id_join2]
    · rw [if_neg hk, if_pos (b2i_dec.mpr hk)]
      exact ref_long R (Or.inl rfl) k
  · rw [if_neg hj, if_pos (b2i_dec.mpr hj)]
    split
    · exact ref_long R (Or.inl rfl) k
    · exact ref_long R (Or.inl rfl) k
