/-! the statements come one after the other, on both sides -/
def cF (S S0 : ST) : Prop := ∀ r, ¬ (10 ≤ r ∧ r < 20) → S.1 r = S0.1 r
def mF (A A0 : Nat → Nat → Int32) : Prop := (∀ r, ¬ (r = 0 ∨ (2 ≤ r ∧ r ≤ 9)) → A r = A0 r) ∧ ∀ z, 5 ≤ z → A 0 z = A0 0 z
def KEnd (s2 : Nat) (S0 : ST) (A0 : Nat → Nat → Int32) (B : Nat → Nat → Int64) (X : Option ((Int32 × (Nat → Nat → Nat) × ST) ⊕ (Int32 × Int32 × (Nat → Nat → Nat) × ST))) (Y : Option ((Int32 × ST) ⊕ (Int32 × ST))) : Prop :=
  (∃ r y' S' A', X = some (.inl (r, y', S')) ∧ Y = some (.inl (r, (A', B))) ∧ cF S' S0 ∧ (∀ r i, dm r i → mK A' r i = kK A0 60 r i) ∧ (∀ r, r ≠ 0 → ¬ (2 ≤ r ∧ r ≤ 9) → A' r = A0 r) ∧ ∀ z, 4 < z → z ≠ 9 → z ≠ 10 → A' 0 z = A0 0 z) ∨
  (∃ x4 q y' S' A', X = some (.inr (Int32.ofNat s2, x4, y', S')) ∧ Y = some (.inr (q, (A', B))) ∧ KR (kR S'.1 1) A' ∧ cF S' S0 ∧ mF A' A0)
theorem kloop (k n s2 : Nat) (hn : n ≤ 96) (hs : s2 ≤ 32) (S0 : ST) (A0 : Nat → Nat → Int32) (B : Nat → Nat → Int64) (el : ∀ z, z < 96 → S0.1 31 z = A0 10 z) (e7 : A0 0 7 = Int32.ofNat s2) (hr : ∀ u, u < s2 → rec1 A0 n u) (en : ps (A0 10) s2 = n) : ∀ (m t j : Nat) (y : Nat → Nat → Nat) (S : ST) (A : Nat → Nat → Int32), t + m = s2 → KR (kR S.1 1) A → cF S S0 → mF A A0 → KEnd s2 S0 A0 B (f_X3_kitchen_L42 (Int32.ofNat n) (k + 200) (m + 1 + j) (Int32.ofNat t) (Int32.ofNat (ps (A0 10) t)) y S) (f_X4_kitchen_L86 (k + 200) (m + 1 + j) (Int32.ofNat t) (A, B)) := by
  intro m
  induction m with
  | zero =>
    intro t j y S A ht R hc hm
    obtain rfl : t = s2 := by omega
    rw [show 0 + 1 + j = j + 1 by omega, f_X3_kitchen_L42, f_X4_kitchen_L86, en, if_pos (show Int32.ofNat n ≤ Int32.ofNat n from (p_le (by omega) (by omega)).mpr (Nat.le_refl _))]
    dsimp only
    rw [if_pos (show A 0 7 ≤ Int32.ofNat t by rw [hm.2 7 (by decide), e7]; exact (p_le (by omega) (by omega)).mpr (Nat.le_refl _))]
    exact Or.inr ⟨_, _, y, S, A, rfl, rfl, R, hc, hm⟩
  | succ m ih =>
    intro t j y S A ht R hc hm
    have ht2 : t < s2 := by omega
    obtain ⟨r1, r2, r3, r4⟩ := hr t ht2
    have q := stp_le r1
    have hv := vb_iff.mp q.2.2.1
    have m10 : A 10 = A0 10 := hm.1 10 (by omega)
    have m11 : A 11 = A0 11 := hm.1 11 (by omega)
    have m12 : A 12 = A0 12 := hm.1 12 (by omega)
    have m13 : A 13 = A0 13 := hm.1 13 (by omega)
    have el2 : ∀ z, z < 96 → S.1 31 z = A 10 z := fun z hz => by rw [hc 31 (by omega), m10]; exact el z hz
    have st := cm_step k n (t := t) (p := ps (A0 10) t) (b := A0 10 (ps (A0 10) t)) (S := S) (A := A) B y R hn (by omega) el2 q.2.1 (by rw [m10]) hv (by rw [m10]; exact q.2.2.2.2) (by rw [m11]; exact r2) (by rw [m13, m10]; exact r4)
    obtain ⟨ok, y', S', A', hX, hY, hk, h1, h2, h3⟩ := st
    have hc' : cF S' S0 := fun r h => (h1 r h).trans (hc r h)
    have hm' : mF A' A0 := ⟨fun r h => (h2 r h).trans (hm.1 r h), fun z h => (h3 z h).trans (hm.2 z h)⟩
    rw [show m + 1 + 1 + j = (m + 1 + j) + 1 by omega, f_X3_kitchen_L42, f_X4_kitchen_L86, if_neg (show ¬ Int32.ofNat n ≤ Int32.ofNat (ps (A0 10) t) from fun z => by
      have := (p_le (by omega) (by omega)).mp z
      omega), if_neg (show ¬ (A, B).1 0 7 ≤ Int32.ofNat t from fun z => by
      have z2 : Int32.ofNat s2 ≤ Int32.ofNat t := by
        rw [← e7, ← hm.2 7 (by decide)]; exact z
      have := (p_le (by omega) (by omega)).mp z2
      omega), hX, p_bs, p_bs, hY, p_bs]
    cases ok with
    | false =>
      rw [if_pos (show b2i false = 0 by decide), if_pos (show b2i false = 0 by decide)]
      obtain ⟨A2, b1, b2, b3, b4⟩ := pall_r k 60 (by decide) A' B 1 rfl
      dsimp only
      rw [b1, p_bs]
      dsimp only
      rw [p_tn (by omega), if_neg (p_nbi (i := t) (n := 48) (by omega) (by decide))]
      have e12 : A2 12 t = Int32.ofNat (ps (A0 10) t) := by rw [b3 12 (by decide) (by omega), hm'.1 12 (by omega)]; exact r3
      rw [e12]
      refine Or.inl ⟨_, y', S', A2, rfl, rfl, hc', fun r i hd => ?_, fun r h4 h5 => ?_, fun z h4 h5 h6 => ?_⟩
      · rw [b4 r i hd]
        have e14 : A' 14 = A0 14 := hm'.1 14 (by omega)
        unfold kK
        rw [e14]
      · rw [b3 r h4 h5, hm'.1 r (by omega)]
      · rw [b2 z h4 h5 h6, hm'.2 z (by omega)]
    | true =>
      rw [if_neg (show ¬ b2i true = 0 by decide), if_neg (show ¬ b2i true = 0 by decide)]
      dsimp only
      have hl : f_X3_letterAt S' (Int32.ofNat (ps (A0 10) t)) = A0 10 (ps (A0 10) t) := by
        unfold f_X3_letterAt
        rw [p_at (by decide) (by omega), hc' 31 (by omega), el _ (by omega)]
      have hg := dgn_in (A0 10 (ps (A0 10) t))
      rw [hl, c_dig hv, if_pos (show (0 : Int32) < Int32.ofNat (dgn (A0 10 (ps (A0 10) t))) from (p_lt (a := 0) (by omega) (by omega)).mpr (by omega))]
      have ex : Int32.ofNat (ps (A0 10) t) + (Int32.ofNat (dgn (A0 10 (ps (A0 10) t))) + 2) = Int32.ofNat (ps (A0 10) (t + 1)) := by
        rw [show Int32.ofNat (dgn (A0 10 (ps (A0 10) t))) + 2 = Int32.ofNat (dgn (A0 10 (ps (A0 10) t)) + 2) from p_add _ 2, p_add]
        exact congrArg Int32.ofNat (Nat.add_assoc _ _ _).symm
      rw [ex, ← p_succ]
      exact ih (t + 1) j y' S' A' (by omega) (hk rfl) hc' hm'
