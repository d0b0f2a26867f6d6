/-! ask, seldom -/
def rt1 (kd P : Int32) (F : Nat → Int64) : Nat → Int64 := fun s => F s * Int32.toInt64 (if s < 2 then 10 - pt2 kd P (Int32.ofNat s) else pt2 kd P (Int32.ofNat s))
theorem rt1_bd {F : Nat → Int64} {X : Nat} (hF : Bd F X) (hX : X < 100000000000000) {kd P : Int32} (h1 : 0 ≤ kd ∧ kd < 6) : Bd (rt1 kd P F) (10 * X) := fun i hi => by
  have hs5 : Int32.ofNat i < 5 := (p_lt (b := 5) (by omega) (by omega)).mpr hi
  have hp := pt_in (P := P) h1 ⟨p_0le i (by omega), hs5⟩
  have ht : 0 ≤ (if i < 2 then 10 - pt2 kd P (Int32.ofNat i) else pt2 kd P (Int32.ofNat i)) ∧ (if i < 2 then 10 - pt2 kd P (Int32.ofNat i) else pt2 kd P (Int32.ofNat i)) ≤ 10 := by
    split
    · have := hp.1; have := hp.2; constructor <;> grind
    · exact hp
  have ht := tL_toI (A := 10) (by decide) ht
  have hf := hF i hi
  have hm := (hF.ab hi).mul (b := Int32.toInt64 (if i < 2 then 10 - pt2 kd P (Int32.ofNat i) else pt2 kd P (Int32.ofNat i))) (B := 10) (by unfold Ab; omega) (by omega)
  show 0 ≤ (F i * Int32.toInt64 (if i < 2 then 10 - pt2 kd P (Int32.ofNat i) else pt2 kd P (Int32.ofNat i))).toInt ∧ (F i * Int32.toInt64 (if i < 2 then 10 - pt2 kd P (Int32.ofNat i) else pt2 kd P (Int32.ofNat i))).toInt ≤ (10 * X : Nat)
  have h3 := hm.1
  unfold Ab at h3
  rw [hm.2] at h3 ⊢
  have := Int.mul_nonneg hf.1 ht.1
  omega
theorem E5.rt {F G : Nat → Int64} (h : E5 F G) (kd P : Int32) : E5 (rt1 kd P F) (rt1 kd P G) := fun i hi => by
  show F i * _ = G i * _
  rw [h i hi]
theorem c_toldL (k : Nat) (A : Nat → Nat → Int32) (B : Nat → Nat → Int64) (P : Int32) : ∃ B2, f_X3_toldRightly_L6 P (k + 200) (k + 200) 0 (A, B) = some (5, (A, B2)) ∧ E5 (B2 0) (rt1 (A 34 0) P (B 0)) := by
  have e : ∀ (B : Nat → Nat → Int64) (r q : Nat → Int64), kLS (kLS B 0 r) 0 q = kLS B 0 q := fun B r q => by
    funext b
    unfold kLS
    split <;> rfl
  have e2 : ∀ (B : Nat → Nat → Int64) (r : Nat → Int64), kLS B 0 r 0 = r := fun B r => rfl
  have t : ∀ (F : Nat → Int64) (s : Nat) (x : Int32), s < 5 → f_X2_times F (Int32.ofNat s) x = vp_updL F s (F s * Int32.toInt64 x) := fun F s x hs => by
    unfold f_X2_times
    rw [show f_X3_isOneOf (Int32.ofNat s) 5 = true from one_iff.mpr ⟨p_0le s (by omega), (p_lt (b := 5) (by omega) (by omega)).mpr hs⟩, if_neg (by decide), p_tn (by omega)]
  have t0 := fun F x => t F 0 x (by decide)
  have t1 := fun F x => t F 1 x (by decide)
  have t2 := fun F x => t F 2 x (by decide)
  have t3 := fun F x => t F 3 x (by decide)
  have t4 := fun F x => t F 4 x (by decide)
  simp only [show Int32.ofNat 0 = 0 from rfl, show Int32.ofNat 1 = 1 from rfl, show Int32.ofNat 2 = 2 from rfl, show Int32.ofNat 3 = 3 from rfl, show Int32.ofNat 4 = 4 from rfl] at t0 t1 t2 t3 t4
  refine ⟨kLS B 0 (v5 (B 0) (rt1 (A 34 0) P (B 0))), ?_, E5.v⟩
  rw [← v5_up]
  unfold rt1
  simp [f_X3_toldRightly_L6, e, e2, t0, t1, t2, t3, t4, c_pt, vp_updL]
theorem TV_cS {S T : ST} (h : cS S T) : TV T = TV S ∧ jj T = jj S := by
  unfold TV jj
  rw [h 0 (by decide) (by decide), h 1 (by decide) (by decide), h 2 (by decide) (by decide), h 5 (by decide) (by decide), h 8 (by decide) (by decide)]
  exact ⟨rfl, rfl⟩
theorem c_told {S T : ST} (h : cS S T) (hj : jIn (S.1 0 0) (S.1 0 1)) (hs : 0 ≤ S.1 0 2 ∧ S.1 0 2 ≤ 8) (k : Nat) (P : Int32) : ∃ T2, f_X3_toldRightly T P (k + 200) = some (sumv (rt1 (S.1 5 (jj S)) P (TV S)), T2) ∧ cS S T2 := by
  have h0 := h 0 (by decide) (by decide)
  obtain ⟨T1, a1, a2, a3, a4⟩ := c_think k (S := T) (by rw [h0]; exact hj) (by rw [h0]; exact hs)
  obtain ⟨A, B⟩ := T1
  obtain ⟨B2, b1, b2⟩ := c_toldL k A B P
  have e := TV_cS h
  unfold f_X3_toldRightly
  rw [a1, p_bs, b1, p_bs, c_sumAll, p_bs]
  refine ⟨(A, B2), ?_, fun r h1 h2 => (a2 r h1 h2).trans (h r h1 h2)⟩
  have a3' : E5 (B 0) (TV T) := a3
  have a4' : A 34 0 = T.1 5 (jj T) := a4.1
  rw [e.1] at a3'
  rw [e.2, h 5 (by decide) (by decide)] at a4'
  rw [b2.a, a4', (a3'.rt _ P).a]
theorem m_right {A : Nat → Nat → Int32} {kd pt cp : Int32} (h : HM A kd pt cp) (k : Nat) (B : Nat → Nat → Int64) {p : Nat} (hp : p < 4) : f_X4_rightOf (A, B) (Int32.ofNat p) (k + 200) = some (sumv (rt1 kd (A 9 p) (B 0))) := by
  have t0 := m_pt h k B hp (s := 0) (by decide)
  have t1 := m_pt h k B hp (s := 1) (by decide)
  have t2 := m_pt h k B hp (s := 2) (by decide)
  have t3 := m_pt h k B hp (s := 3) (by decide)
  have t4 := m_pt h k B hp (s := 4) (by decide)
  unfold f_X4_rightOf sumv rt1
  simp [f_X4_rightOf_L5, t0, t1, t2, t3, t4]
theorem c_askL {S : ST} (hj : jIn (S.1 0 0) (S.1 0 1)) (hs : 0 ≤ S.1 0 2 ∧ S.1 0 2 ≤ 8) (k c : Nat) (hc : c ≤ 4) (e : S.1 0 4 = Int32.ofNat c) : ∀ (m i j b : Nat) (T : ST), i + m = c → cS S T → ∃ q q2 T2, f_X3_ask_L27 (k + 200) (m + 1 + j) (Int32.ofNat b) (sumv (rt1 (S.1 5 (jj S)) (S.1 4 b) (TV S))) (Int32.ofNat i) T = some (Int32.ofNat (amx (fun p => sumv (rt1 (S.1 5 (jj S)) (S.1 4 p) (TV S))) m i b), q, q2, T2) ∧ cS S T2
  | 0, i, j, b, T, h1, h2 => by
    obtain rfl : i = c := by omega
    refine ⟨sumv (rt1 (S.1 5 (jj S)) (S.1 4 b) (TV S)), Int32.ofNat i, T, ?_, h2⟩
    rw [show 0 + 1 + j = j + 1 by omega, f_X3_ask_L27, if_pos (show T.1 0 4 ≤ _ by rw [h2 0 (by decide) (by decide), e]; grind)]
    rfl
  | m + 1, i, j, b, T, h1, h2 => by
    obtain ⟨T2, a1, a2⟩ := c_told h2 hj hs k (S.1 4 i)
    rw [show m + 1 + 1 + j = (m + 1 + j) + 1 by omega, f_X3_ask_L27, if_neg (show ¬ T.1 0 4 ≤ _ from fun z => by rw [h2 0 (by decide) (by decide), e] at z; have := (p_le (by omega) (by omega)).mp z; omega), h2 4 (by decide) (by decide), p_at (by decide) (by omega), a1, p_bs, amx]
    simp only [lg_cmp_le]
    by_cases h : sumv (rt1 (S.1 5 (jj S)) (S.1 4 i) (TV S)) ≤ sumv (rt1 (S.1 5 (jj S)) (S.1 4 b) (TV S))
    · rw [if_pos h, if_neg (show ¬ sumv (rt1 (S.1 5 (jj S)) (S.1 4 b) (TV S)) < sumv (rt1 (S.1 5 (jj S)) (S.1 4 i) (TV S)) from fun z => Int64.not_lt.mpr h z)]
      have := c_askL hj hs k c hc e m (i + 1) j b T2 (by omega) a2
      rw [Int32.ofNat_add] at this
      exact this
    · rw [if_neg h, if_pos (show sumv (rt1 (S.1 5 (jj S)) (S.1 4 b) (TV S)) < sumv (rt1 (S.1 5 (jj S)) (S.1 4 i) (TV S)) from Int64.not_le.mp h)]
      have := c_askL hj hs k c hc e m (i + 1) j i T2 (by omega) a2
      rw [Int32.ofNat_add] at this
      exact this
theorem m_askL {A : Nat → Nat → Int32} {kd pt cp : Int32} (h : HM A kd pt cp) (k : Nat) (B : Nat → Nat → Int64) (c : Nat) (hc : c ≤ 4) (e : A 0 3 = Int32.ofNat c) : ∀ (m i j b : Nat), i + m = c → b < 4 → ∃ q, f_X4_ask_L23 (A, B) (k + 200) (m + 1 + j) (Int32.ofNat b) (Int32.ofNat i) = some (Int32.ofNat (amx (fun p => sumv (rt1 kd (A 9 p) (B 0))) m i b), q)
  | 0, i, j, b, h1, h2 => by
    obtain rfl : i = c := by omega
    refine ⟨Int32.ofNat i, ?_⟩
    rw [show 0 + 1 + j = j + 1 by omega, f_X4_ask_L23, if_pos (show A 0 3 ≤ _ by rw [e]; grind)]
    rfl
  | m + 1, i, j, b, h1, h2 => by
    rw [show m + 1 + 1 + j = (m + 1 + j) + 1 by omega, f_X4_ask_L23, if_neg (show ¬ A 0 3 ≤ _ from fun z => by rw [e] at z; have := (p_le (by omega) (by omega)).mp z; omega), if_neg (show ¬ Int32.ofNat b < 0 from fun z => by have := (p_lt (b := 0) (by omega) (by omega)).mp z; omega), m_right h k B (by omega), m_right h k B h2, p_bs, p_bs, amx]
    simp only [lg_cmp_le]
    by_cases hh : sumv (rt1 kd (A 9 i) (B 0)) ≤ sumv (rt1 kd (A 9 b) (B 0))
    · rw [if_pos hh, if_neg (show ¬ sumv (rt1 kd (A 9 b) (B 0)) < sumv (rt1 kd (A 9 i) (B 0)) from fun z => Int64.not_lt.mpr hh z)]
      have := m_askL h k B c hc e m (i + 1) j b (by omega) h2
      rw [Int32.ofNat_add] at this
      exact this
    · rw [if_neg hh, if_pos (show sumv (rt1 kd (A 9 b) (B 0)) < sumv (rt1 kd (A 9 i) (B 0)) from Int64.not_le.mp hh)]
      have := m_askL h k B c hc e m (i + 1) j i (by omega) (by omega)
      rw [Int32.ofNat_add] at this
      exact this
theorem amx_cg {g g2 : Nat → Int64} {n : Nat} (h : ∀ i, i < n → g i = g2 i) : ∀ m i b, i + m ≤ n → b < n → amx g m i b = amx g2 m i b
  | 0, _, _, _, _ => rfl
  | m + 1, i, b, h1, h2 => by
    rw [amx, amx, h i (by omega), h b h2]
    exact amx_cg h m (i + 1) _ (by omega) (by split <;> omega)
theorem o_ask {S M : ST} (R : Rel S M) (k : Nat) : O2 (f_X3_ask S (k + 200)) (f_X4_ask M (k + 200)) := by
  unfold f_X3_ask f_X4_ask
  by_cases hj : jIn (S.1 0 0) (S.1 0 1)
  · rw [rih_y hj, if_pos rfl, if_neg (R.in0.mp hj)]
    obtain ⟨S2, M2, h1, h2, T⟩ := think_both R hj k
    rw [h2, p_bs]
    obtain ⟨c, hc, e1, e2⟩ := R.ppl
    have hm := T.2.2.2.2.2.2.1
    have e2' : M2.1 0 3 = Int32.ofNat c := by rw [T.2.2.1]; exact e2
    have hs := R.g.1.2.2.1
    obtain ⟨A4, B4⟩ := M2
    have fin : ∀ (r : Int32) (S3 : ST), cS S S3 → O2 (some (r, S3)) (some (r, (A4, B4))) := fun r S3 hc => ⟨r, S3, _, rfl, rfl, R.frame hc (fun r _ => by rw [T.2.2.1])⟩
    by_cases h0 : c = 0
    · subst h0
      rw [show k + 200 = (k + 199) + 1 from rfl, f_X3_ask_L27, if_pos (show S.1 0 4 ≤ 0 by rw [e1]; decide), p_bs, f_X4_ask_L23, if_pos (show A4 0 3 ≤ 0 by rw [show A4 0 3 = _ from e2']; decide), p_bs]
      exact fin _ _ cS.rfl'
    · obtain ⟨T1, a1, a2⟩ := c_told (S := S) (T := S) cS.rfl' hj hs k (S.1 4 0)
      have hpos : ¬ (sumv (rt1 (S.1 5 (jj S)) (S.1 4 0) (TV S))) ≤ -1 := fun z => by
        have h3 := sumv_pos (rt1_bd (P := S.1 4 0) (TV_bd R hj) (by decide) (R.at hj).2.2.2.1) (by decide)
        have h4 := Int64.le_iff_toInt_le.mp z
        have e5 : (-1 : Int64).toInt = -1 := rfl
        rw [e5] at h4
        unfold jj at h4
        omega
      obtain ⟨q, q2, T2, b1, b2⟩ := c_askL hj hs k c hc e1 (c - 1) 1 (k + 199 - c) 0 T1 (by omega) a2
      obtain ⟨q3, d1⟩ := m_askL hm k B4 c hc e2' (c - 1) 1 (k + 199 - c) 0 (by omega) (by decide)
      rw [show c - 1 + 1 + (k + 199 - c) = k + 199 by omega] at b1 d1
      have b1' : f_X3_ask_L27 (k + 200) (k + 199) 0 (sumv (rt1 (S.1 5 (jj S)) (S.1 4 0) (TV S))) (0 + 1) T1 = _ := b1
      have d1' : f_X4_ask_L23 (A4, B4) (k + 200) (k + 199) 0 (0 + 1) = _ := d1
      have l1 : f_X3_ask_L27 (k + 200) (k + 200) (-9) (-1) 0 S = f_X3_ask_L27 (k + 200) (k + 199) 0 (sumv (rt1 (S.1 5 (jj S)) (S.1 4 0) (TV S))) (0 + 1) T1 := by
        have p0 : f_X3_at (S.1 4) 4 0 = S.1 4 0 := p_at (i := 0) (by decide) (by decide)
        conv => lhs; rw [show k + 200 = (k + 199) + 1 from rfl, f_X3_ask_L27]
        rw [if_neg (show ¬ S.1 0 4 ≤ 0 from fun z => by rw [e1] at z; have := (p_le (b := 0) (by omega) (by omega)).mp z; omega), p0, a1, p_bs, if_neg (fun z => hpos ((lg_cmp_le _ _).mp z))]
      have l2 : f_X4_ask_L23 (A4, B4) (k + 200) (k + 200) (-9) 0 = f_X4_ask_L23 (A4, B4) (k + 200) (k + 199) 0 (0 + 1) := by
        conv => lhs; rw [show k + 200 = (k + 199) + 1 from rfl, f_X4_ask_L23]
        rw [if_neg (show ¬ A4 0 3 ≤ 0 from fun z => by rw [show A4 0 3 = _ from e2'] at z; have := (p_le (b := 0) (by omega) (by omega)).mp z; omega), if_pos (by decide)]
      rw [l1, b1', p_bs, l2, d1', p_bs]
      rw [amx_cg (n := c) (g2 := fun p => sumv (rt1 (S.1 5 (jj S)) (A4 9 p) (B4 0))) (fun i hi => ?_) (c - 1) 1 0 (by omega) (by omega)]
      · exact fin _ _ b2
      · have e9 : S.1 4 i = A4 9 i := by
          have := (R.k.2.2.1 i (by omega)).2
          rw [this, ← T.2.2.1]
          rfl
        rw [e9, (T.2.2.2.2.1.rt _ _).a]
  · rw [rih_n hj, if_neg (by decide), if_pos (Classical.not_not.mp (fun z => hj (R.in0.mpr z)))]
    exact ref_no R (Or.inr (Or.inr (Or.inl rfl))) k
