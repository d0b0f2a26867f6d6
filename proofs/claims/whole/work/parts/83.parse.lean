/-! letters: what both sides read -/
def isD (x : Int32) : Prop := 48 ≤ x ∧ x ≤ 57
def dsc (T : Nat → Int32) (n : Nat) : Nat → Nat → Bool × Nat
  | 0, p => (true, p)
  | d + 1, p => if p < n ∧ 48 ≤ T p ∧ T p ≤ 57 then dsc T n d (p + 1) else (false, p)
theorem dsc_t {T : Nat → Int32} {n : Nat} : ∀ d p, (dsc T n d p).1 = true → (dsc T n d p).2 = p + d ∧ p + d ≤ max n p ∧ ∀ z, p ≤ z → z < p + d → 48 ≤ T z ∧ T z ≤ 57 := by
  intro d
  induction d with
  | zero => intro p _; exact ⟨rfl, by omega, fun z h1 h2 => by omega⟩
  | succ d ih =>
    intro p h
    rw [dsc] at h ⊢
    by_cases h1 : p < n ∧ 48 ≤ T p ∧ T p ≤ 57
    · rw [if_pos h1] at h ⊢
      have := ih (p + 1) h
      refine ⟨by rw [this.1]; omega, by omega, fun z h2 h3 => ?_⟩
      by_cases hz : z = p
      · rw [hz]; exact h1.2
      · exact this.2.2 z (by omega) (by omega)
    · rw [if_neg h1] at h
      cases h
theorem dsc_le {T : Nat → Int32} {n : Nat} : ∀ d p, p ≤ n → (dsc T n d p).2 ≤ n ∧ p ≤ (dsc T n d p).2 := by
  intro d
  induction d with
  | zero => intro p h; exact ⟨h, Nat.le_refl _⟩
  | succ d ih =>
    intro p h
    rw [dsc]
    split
    · rename_i h1
      have := ih (p + 1) (by omega)
      exact ⟨this.1, by omega⟩
    · exact ⟨h, Nat.le_refl _⟩
theorem hF (x : Nat) : ¬ ((false, x) : Bool × Nat).1 = true := fun h => by cases h
theorem dsc_add {T : Nat → Int32} {n : Nat} (b : Nat) : ∀ a p, dsc T n (a + b) p = if (dsc T n a p).1 = true then dsc T n b (dsc T n a p).2 else dsc T n a p := by
  intro a
  induction a with
  | zero => intro p; rw [Nat.zero_add, dsc, if_pos rfl]
  | succ a ih =>
    intro p
    rw [show a + 1 + b = (a + b) + 1 by omega, dsc, dsc]
    by_cases h1 : p < n ∧ 48 ≤ T p ∧ T p ≤ 57
    · rw [if_pos h1, if_pos h1]
      exact ih (p + 1)
    · rw [if_neg h1, if_neg h1, if_neg (hF _)]
def vl (T : Nat → Int32) : Nat → Nat → Int32 → Int32
  | 0, _, v => v
  | d + 1, p, v => vl T d (p + 1) (((10 * v) + T p) - 48)
def vld (b : Int32) : Prop := b = 106 ∨ b = 99 ∨ b = 119 ∨ b = 116 ∨ b = 112 ∨ b = 104 ∨ b = 115 ∨ b = 117
def dgn (b : Int32) : Nat := if b = 106 then 6 else if b = 119 then 3 else if b = 99 ∨ b = 116 ∨ b = 115 then 2 else 1
theorem c_dig {b : Int32} (h : vld b) : f_X3_digitsOf b = Int32.ofNat (dgn b) := by
  rcases h with rfl | rfl | rfl | rfl | rfl | rfl | rfl | rfl <;> decide
theorem c_dign {b : Int32} (h : ¬ vld b) : f_X3_digitsOf b = -1 := by
  unfold vld at h
  unfold f_X3_digitsOf
  simp only [not_or] at h
  rw [if_neg h.2.1, if_neg h.2.2.2.2.2.1, if_neg h.1, if_neg h.2.2.2.2.1, if_neg h.2.2.2.2.2.2.1, if_neg h.2.2.2.1, if_neg h.2.2.2.2.2.2.2, if_neg h.2.2.1]
theorem dgn_in (b : Int32) : 1 ≤ dgn b ∧ dgn b ≤ 6 := by
  unfold dgn
  split
  · omega
  split
  · omega
  split <;> omega
/-- one statement from p on: good and the place behind it, or the bad place -/
def stp (T : Nat → Int32) (n p : Nat) (ok : Bool) : Bool × Nat :=
  if p < n ∧ ok = true then
    (if (dsc T n (dgn (T p)) (p + 1)).1 = true then
      (if (dsc T n (dgn (T p)) (p + 1)).2 < n ∧ T (dsc T n (dgn (T p)) (p + 1)).2 = 59 then (true, (dsc T n (dgn (T p)) (p + 1)).2 + 1) else (false, (dsc T n (dgn (T p)) (p + 1)).2))
    else (false, (dsc T n (dgn (T p)) (p + 1)).2))
  else (false, p)
theorem c_isDigit (x : Int32) : (b2i (f_X3_isDigit x) = 0) ↔ ¬ (48 ≤ x ∧ x ≤ 57) := by
  unfold f_X3_isDigit
  split
  · simp only [b2i_f0, true_iff]; grind
  · split
    · simp only [b2i_f0, true_iff]; grind
    · simp only [b2i_t0, false_iff, Classical.not_not]; grind
theorem c_fbI (k n : Nat) (hn : n ≤ 96) (S : ST) : ∀ (d i j p : Nat) (D : Nat), i + d = D → D ≤ 6 → p < 96 → f_X3_firstBadLetter_L25 (Int32.ofNat n) (Int32.ofNat D) S (k + 200) (d + 1 + j) (Int32.ofNat p) (Int32.ofNat i) = some (if (dsc (S.1 31) n d (p + 1)).1 = true then .inr (Int32.ofNat (p + d), Int32.ofNat D) else .inl (Int32.ofNat (dsc (S.1 31) n d (p + 1)).2)) := by
  intro d
  induction d with
  | zero =>
    intro i j p D h hD hp
    obtain rfl : i = D := by omega
    rw [show 0 + 1 + j = j + 1 by omega, f_X3_firstBadLetter_L25, if_pos (by grind), dsc, if_pos rfl, Nat.add_zero]
  | succ d ih =>
    intro i j p D h hD hp
    rw [show d + 1 + 1 + j = (d + 1 + j) + 1 by omega, f_X3_firstBadLetter_L25, if_neg (fun z => by have := (p_le (by omega) (by omega)).mp z; omega), dsc, ← p_succ, ← p_succ]
    by_cases h1 : n ≤ p + 1
    · rw [if_pos ((p_le (by omega) (by omega)).mpr h1), if_neg (show ¬ (p + 1 < n ∧ _) from fun z => by omega), if_neg (hF _)]
    · rw [if_neg (fun z => h1 ((p_le (by omega) (by omega)).mp z))]
      unfold f_X3_letterAt
      rw [p_at (by decide) (by omega)]
      by_cases h2 : 48 ≤ S.1 31 (p + 1) ∧ S.1 31 (p + 1) ≤ 57
      · rw [if_neg (fun z => (c_isDigit _).mp z h2), if_pos (show p + 1 < n ∧ _ from ⟨by omega, h2⟩), ih (i + 1) j (p + 1) D (by omega) hD (by omega), show p + (d + 1) = p + 1 + d by omega]
      · rw [if_pos ((c_isDigit _).mpr h2), if_neg (show ¬ (p + 1 < n ∧ _) from fun z => h2 z.2), if_neg (hF _)]
/-- the walk over all statements -/
def wlk (T : Nat → Int32) (n : Nat) (V : Int32 → Bool) : Nat → Nat → Bool × Nat
  | 0, p => (true, p)
  | m + 1, p => if n ≤ p then (true, p) else if (stp T n p (V (T p))).1 = true then wlk T n V m (stp T n p (V (T p))).2 else stp T n p (V (T p))
def vb (b : Int32) : Bool := (b == 106 || b == 99 || b == 119 || b == 116 || b == 112 || b == 104 || b == 115 || b == 117)
theorem vb_iff {b : Int32} : vb b = true ↔ vld b := by
  unfold vb vld
  simp only [Bool.or_eq_true, beq_iff_eq, or_assoc]
theorem stp_le {T : Nat → Int32} {n p : Nat} {ok : Bool} (h : (stp T n p ok).1 = true) : (stp T n p ok).2 = p + dgn (T p) + 2 ∧ p + dgn (T p) + 2 ≤ n ∧ ok = true ∧ p < n ∧ (∀ z, p + 1 ≤ z → z < p + 1 + dgn (T p) → 48 ≤ T z ∧ T z ≤ 57) := by
  unfold stp at h ⊢
  by_cases h1 : p < n ∧ ok = true
  · rw [if_pos h1] at h ⊢
    by_cases h2 : (dsc T n (dgn (T p)) (p + 1)).1 = true
    · rw [if_pos h2] at h ⊢
      have h3 := dsc_t _ _ h2
      by_cases h4 : (dsc T n (dgn (T p)) (p + 1)).2 < n ∧ T (dsc T n (dgn (T p)) (p + 1)).2 = 59
      · rw [if_pos h4] at h ⊢
        rw [h3.1] at h4 ⊢
        exact ⟨by omega, by omega, h1.2, h1.1, h3.2.2⟩
      · rw [if_neg h4] at h
        cases h
    · rw [if_neg h2] at h
      cases h
  · rw [if_neg h1] at h
    cases h
theorem c_fbO (k n : Nat) (hn : n ≤ 96) (S : ST) : ∀ (m p j : Nat), n ≤ p + 3 * m → p ≤ n → ∃ q, f_X3_firstBadLetter_L2 (Int32.ofNat n) S (k + 200) (m + 1 + j) (Int32.ofNat p) = some (if (wlk (S.1 31) n vb (m + 1) p).1 = true then .inr q else .inl (Int32.ofNat (wlk (S.1 31) n vb (m + 1) p).2)) := by
  intro m
  induction m with
  | zero =>
    intro p j h hp
    obtain rfl : p = n := by omega
    refine ⟨Int32.ofNat p, ?_⟩
    rw [show 0 + 1 + j = j + 1 by omega, f_X3_firstBadLetter_L2, if_pos (by grind), wlk, if_pos (Nat.le_refl _), if_pos rfl]
  | succ m ih =>
    intro p j h hp
    rw [show m + 1 + 1 + j = (m + 1 + j) + 1 by omega, f_X3_firstBadLetter_L2, wlk]
    by_cases h1 : n ≤ p
    · refine ⟨Int32.ofNat p, ?_⟩
      rw [if_pos ((p_le (by omega) (by omega)).mpr h1), if_pos h1, if_pos rfl]
    · rw [if_neg (fun z => h1 ((p_le (by omega) (by omega)).mp z)), if_neg h1]
      unfold f_X3_letterAt
      rw [p_at (by decide) (by omega)]
      by_cases hv : vld (S.1 31 p)
      · have hvb := vb_iff.mpr hv
        have hd := dgn_in (S.1 31 p)
        rw [c_dig hv, if_pos (p_0le _ (by omega))]
        have hI := c_fbI k n hn S (dgn (S.1 31 p)) 0 (k + 199 - dgn (S.1 31 p)) p (dgn (S.1 31 p)) (by omega) hd.2 (by omega)
        rw [show dgn (S.1 31 p) + 1 + (k + 199 - dgn (S.1 31 p)) = k + 200 by omega] at hI
        have hI' : f_X3_firstBadLetter_L25 (Int32.ofNat n) (Int32.ofNat (dgn (S.1 31 p))) S (k + 200) (k + 200) (Int32.ofNat p) 0 = _ := hI
        rw [hI', p_bs, hvb]
        have hle := dsc_le (T := S.1 31) (n := n) (dgn (S.1 31 p)) (p + 1) (by omega)
        by_cases h2 : (dsc (S.1 31) n (dgn (S.1 31 p)) (p + 1)).1 = true
        · have h3 := dsc_t _ _ h2
          have hstp : stp (S.1 31) n p true = if (dsc (S.1 31) n (dgn (S.1 31 p)) (p + 1)).2 < n ∧ S.1 31 (dsc (S.1 31) n (dgn (S.1 31 p)) (p + 1)).2 = 59 then (true, (dsc (S.1 31) n (dgn (S.1 31 p)) (p + 1)).2 + 1) else (false, (dsc (S.1 31) n (dgn (S.1 31 p)) (p + 1)).2) := by
            unfold stp
            rw [if_pos ⟨by omega, rfl⟩, if_pos h2]
          rw [hstp, if_pos h2, h3.1]
          dsimp only
          rw [← p_succ]
          by_cases h4 : n ≤ p + dgn (S.1 31 p) + 1
          · refine ⟨0, ?_⟩
            rw [if_pos ((p_le (by omega) (by omega)).mpr h4), if_neg (show ¬ (p + 1 + dgn (S.1 31 p) < n ∧ _) from fun z => by omega), if_neg (hF _), if_neg (hF _), show p + 1 + dgn (S.1 31 p) = p + dgn (S.1 31 p) + 1 by omega]
          · rw [if_neg (fun z => h4 ((p_le (by omega) (by omega)).mp z)), p_at (by decide) (by omega), show p + 1 + dgn (S.1 31 p) = p + dgn (S.1 31 p) + 1 by omega]
            by_cases h5 : S.1 31 (p + dgn (S.1 31 p) + 1) = 59
            · rw [if_pos h5, if_pos (show p + dgn (S.1 31 p) + 1 < n ∧ _ from ⟨by omega, h5⟩), if_pos rfl, ← p_succ]
              exact ih (p + dgn (S.1 31 p) + 1 + 1) j (by omega) (by omega)
            · refine ⟨0, ?_⟩
              rw [if_neg h5, if_neg (show ¬ (p + dgn (S.1 31 p) + 1 < n ∧ _) from fun z => h5 z.2), if_neg (hF _), if_neg (hF _)]
        · have hstp : stp (S.1 31) n p true = (false, (dsc (S.1 31) n (dgn (S.1 31 p)) (p + 1)).2) := by
            unfold stp
            rw [if_pos ⟨by omega, rfl⟩, if_neg h2]
          refine ⟨0, ?_⟩
          rw [hstp, if_neg h2, if_neg (hF _), if_neg (hF _)]
      · have hvb : vb (S.1 31 p) = false := by
          cases hb : vb (S.1 31 p)
          · rfl
          · exact absurd (vb_iff.mp hb) hv
        have hstp : stp (S.1 31) n p false = (false, p) := by
          unfold stp
          rw [if_neg (fun z => by cases z.2)]
        refine ⟨0, ?_⟩
        rw [c_dign hv, if_neg (by decide), hvb, hstp, if_neg (hF _), if_neg (hF _)]
theorem c_fb (k n : Nat) (hn : n ≤ 96) (S : ST) : f_X3_firstBadLetter S (Int32.ofNat n) (k + 200) = some (if (wlk (S.1 31) n vb 33 0).1 = true then (if n = 0 then 0 else -1) else Int32.ofNat (wlk (S.1 31) n vb 33 0).2) := by
  obtain ⟨q, h⟩ := c_fbO k n hn S 32 0 (k + 167) (by omega) (by omega)
  rw [show 32 + 1 + (k + 167) = k + 200 by omega] at h
  have h' : f_X3_firstBadLetter_L2 (Int32.ofNat n) S (k + 200) (k + 200) 0 = _ := h
  unfold f_X3_firstBadLetter
  rw [h', p_bs]
  by_cases hw : (wlk (S.1 31) n vb 33 0).1 = true
  · rw [if_pos hw, if_pos hw]
    dsimp only
    by_cases h0 : n = 0
    · rw [if_pos h0, if_pos (by rw [h0]; rfl)]
    · rw [if_neg h0, if_neg (p_ne0 (by omega) (by omega))]
  · rw [if_neg hw, if_neg hw]
