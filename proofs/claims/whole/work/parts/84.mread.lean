/-! the reference reads -/
def rst (A : Nat → Nat → Int32) (p : Nat) : Nat → Nat → Int32 := kE A 0 6 (Int32.ofNat p)
theorem rst_at (A : Nat → Nat → Int32) (p r i : Nat) (h : ¬ (r = 0 ∧ i = 6)) : rst A p r i = A r i := by
  unfold rst
  rw [kE_at, if_neg h]
theorem rst_r (A : Nat → Nat → Int32) (p r : Nat) (h : r ≠ 0) : rst A p r = A r := by
  show (if r = 0 then _ else A r) = _
  rw [if_neg h]
theorem rst_6 (A : Nat → Nat → Int32) (p : Nat) : rst A p 0 6 = Int32.ofNat p := by
  unfold rst
  rw [kE_at, if_pos ⟨rfl, rfl⟩]
theorem rst_rst (A : Nat → Nat → Int32) (p q : Nat) : kE (rst A p) 0 6 (Int32.ofNat q) = rst A q := by
  funext r i
  unfold rst
  simp only [kE_at]
  by_cases h : r = 0 ∧ i = 6
  · rw [if_pos h, if_pos h]
  · rw [if_neg h, if_neg h, if_neg h]
theorem rst_kE (A : Nat → Nat → Int32) (p r i : Nat) (v : Int32) (h : ¬ (r = 0 ∧ i = 6)) : kE (rst A p) r i v = rst (kE A r i v) p := by
  funext a b
  unfold rst
  simp only [kE_at]
  by_cases h1 : a = r ∧ b = i
  · rw [if_pos h1, if_neg (fun z => h ⟨by omega, by omega⟩), if_pos h1]
  · rw [if_neg h1]
    by_cases h2 : a = 0 ∧ b = 6
    · rw [if_pos h2, if_pos h2]
    · rw [if_neg h2, if_neg h2, if_neg h1]
theorem m_next (k n p : Nat) (hn : n ≤ 96) (hp : p ≤ n) (A : Nat → Nat → Int32) (B : Nat → Nat → Int64) (e5 : A 0 5 = Int32.ofNat n) : f_X4_next (rst A p, B) (k + 200) = some (if p < n then A 10 p else -1) := by
  unfold f_X4_next
  dsimp only
  simp only [rst_6, rst_at A p 0 5 (by omega), e5, rst_r A p 10 (by decide)]
  by_cases h : p < n
  · rw [if_neg (fun z => by have := (p_le (by omega) (by omega)).mp z; omega), if_pos h, p_tn (by omega), if_neg (p_nbi (i := p) (n := 96) (by omega) (by decide))]
  · rw [if_pos ((p_le (by omega) (by omega)).mpr (by omega)), if_neg h]
theorem m_rdL (k n : Nat) (hn : n ≤ 96) (A : Nat → Nat → Int32) (B : Nat → Nat → Int64) (e5 : A 0 5 = Int32.ofNat n) (D : Nat) (hD : D ≤ 6) : ∀ (d i j p : Nat) (v : Int32), i + d = D → p ≤ n → f_X4_readsDigits_L5 (Int32.ofNat D) (k + 200) (d + 1 + j) v (Int32.ofNat i) (rst A p, B) = some (if (dsc (A 10) n d p).1 = true then .inr (vl (A 10) d p v, Int32.ofNat D, (rst A (dsc (A 10) n d p).2, B)) else .inl (false, (rst A (dsc (A 10) n d p).2, B))) := by
  intro d
  induction d with
  | zero =>
    intro i j p v h hp
    obtain rfl : i = D := by omega
    rw [show 0 + 1 + j = j + 1 by omega, f_X4_readsDigits_L5, if_pos (by grind), dsc, if_pos rfl, vl]
  | succ d ih =>
    intro i j p v h hp
    have hnx := m_next k n p hn hp A B e5
    rw [show d + 1 + 1 + j = (d + 1 + j) + 1 by omega, f_X4_readsDigits_L5, if_neg (fun z => by have := (p_le (by omega) (by omega)).mp z; omega), hnx, p_bs, p_bs, vl]
    have e6 : kS (rst A p) 0 (upd (rst A p 0) 6 (rst A p 0 6 + 1)) = rst A (p + 1) := by
      rw [rst_6, ← p_succ, ← rst_rst A p (p + 1)]
      rfl
    have hbad : ¬ (p < n ∧ 48 ≤ A 10 p ∧ A 10 p ≤ 57) → dsc (A 10) n (d + 1) p = (false, p) := fun hc => by rw [dsc, if_neg hc]
    by_cases h1 : p < n
    · simp only [if_pos h1]
      by_cases h2 : 48 ≤ A 10 p ∧ A 10 p ≤ 57
      · have hds : dsc (A 10) n (d + 1) p = dsc (A 10) n d (p + 1) := by rw [dsc, if_pos ⟨h1, h2⟩]
        rw [if_neg (fun z => (m_isIn _ 48 57).mp z h2), hds, e6, ← p_succ]
        exact ih (i + 1) j (p + 1) _ (by omega) (by omega)
      · rw [if_pos ((m_isIn _ 48 57).mpr h2), hbad (fun z => h2 z.2), if_neg (hF _)]
    · simp only [if_neg h1]
      rw [if_pos ((m_isIn _ 48 57).mpr (by decide)), hbad (fun z => h1 z.1), if_neg (hF _)]
theorem m_rd (k n p t d : Nat) (hn : n ≤ 96) (hp : p ≤ n) (ht : t < 192) (hd : d ≤ 6) (A : Nat → Nat → Int32) (B : Nat → Nat → Int64) (e5 : A 0 5 = Int32.ofNat n) : f_X4_readsDigits (rst A p, B) (Int32.ofNat t) (Int32.ofNat d) (k + 200) = some (if (dsc (A 10) n d p).1 = true then (true, (rst (kE A 13 t (vl (A 10) d p 0)) (dsc (A 10) n d p).2, B)) else (false, (rst A (dsc (A 10) n d p).2, B))) := by
  have h := m_rdL k n hn A B e5 d hd d 0 (k + 199 - d) p 0 (by omega) hp
  rw [show d + 1 + (k + 199 - d) = k + 200 by omega] at h
  have h' : f_X4_readsDigits_L5 (Int32.ofNat d) (k + 200) (k + 200) 0 0 (rst A p, B) = _ := h
  unfold f_X4_readsDigits
  rw [h', p_bs]
  by_cases h1 : (dsc (A 10) n d p).1 = true
  · rw [if_pos h1, if_pos h1]
    dsimp only
    rw [if_neg (by rw [p_tn (by omega)]; exact p_nbi ht (by decide)), p_tn (by omega), ← rst_kE A _ 13 t _ (by omega)]
    rfl
  · rw [if_neg h1, if_neg h1]
/-- the groups of digits of a statement at p -/
def gv (b : Int32) (T : Nat → Int32) (p : Nat) : Nat → Int32
  | 0 => if b = 99 then vl T 2 p 0 else vl T 1 p 0
  | 1 => if b = 119 then vl T 2 (p + 1) 0 else vl T 1 (p + 1) 0
  | 2 => vl T 1 (p + 2) 0
  | _ => vl T 3 (p + 3) 0
def gn (b : Int32) : Nat := if b = 106 then 4 else if b = 119 ∨ b = 116 ∨ b = 115 then 2 else 1
/-- A2 is A but for told, where the groups stand from t on -/
def rdd (A A2 : Nat → Nat → Int32) (b : Int32) (p t : Nat) (ok : Bool) : Prop := (∀ r, r ≠ 13 → A2 r = A r) ∧ (∀ z, z < t → A2 13 z = A 13 z) ∧ (ok = true → ∀ i, i < gn b → A2 13 (t + i) = gv b (A 10) p i)
theorem rd_r (A : Nat → Nat → Int32) (t : Nat) (v : Int32) : (∀ r, r ≠ 13 → kE A 13 t v r = A r) ∧ kE A 13 t v 13 t = v ∧ (∀ z, z ≠ t → kE A 13 t v 13 z = A 13 z) := by
  refine ⟨fun r hr => ?_, ?_, fun z hz => ?_⟩
  · show (if r = 13 then _ else A r) = _
    rw [if_neg hr]
  · rw [kE_at, if_pos ⟨rfl, rfl⟩]
  · rw [kE_at, if_neg (fun h => hz h.2)]
theorem rdd_bad {A A2 : Nat → Nat → Int32} {b : Int32} {p t : Nat} (h1 : ∀ r, r ≠ 13 → A2 r = A r) (h2 : ∀ z, z < t → A2 13 z = A 13 z) : rdd A A2 b p t false := ⟨h1, h2, fun h => by cases h⟩
theorem m_ra1 (k n p t : Nat) (hn : n ≤ 96) (hp : p ≤ n) (ht : t < 180) (A : Nat → Nat → Int32) (B : Nat → Nat → Int64) (e5 : A 0 5 = Int32.ofNat n) (b : Int32) (d : Nat) (hd : d ≤ 2) (hg : gn b = 1) (hv : gv b (A 10) p 0 = vl (A 10) d p 0) : ∃ A2, f_X4_readsDigits (rst A p, B) (Int32.ofNat t) (Int32.ofNat d) (k + 200) = some ((dsc (A 10) n d p).1, (rst A2 (dsc (A 10) n d p).2, B)) ∧ rdd A A2 b p t (dsc (A 10) n d p).1 := by
  rw [m_rd k n p t d hn hp (by omega) (by omega) A B e5]
  by_cases h1 : (dsc (A 10) n d p).1 = true
  · rw [if_pos h1, h1]
    have hr := rd_r A t (vl (A 10) d p 0)
    refine ⟨_, rfl, hr.1, fun z hz => hr.2.2 z (by omega), fun _ i hi => ?_⟩
    obtain rfl : i = 0 := by omega
    rw [hv]
    exact hr.2.1
  · rw [if_neg h1, show (dsc (A 10) n d p).1 = false by cases h : (dsc (A 10) n d p).1; rfl; exact absurd h h1]
    exact ⟨A, rfl, rdd_bad (fun _ _ => rfl) (fun _ _ => rfl)⟩
theorem m_ra2 (k n p t : Nat) (hn : n ≤ 96) (hp : p ≤ n) (ht : t < 180) (A : Nat → Nat → Int32) (B : Nat → Nat → Int64) (e5 : A 0 5 = Int32.ofNat n) (b : Int32) (d : Nat) (hd : d ≤ 2) (hg : gn b = 2) (hv0 : gv b (A 10) p 0 = vl (A 10) 1 p 0) (hv1 : gv b (A 10) p 1 = vl (A 10) d (p + 1) 0) : ∃ A2, ((f_X4_readsDigits (rst A p, B) (Int32.ofNat t) 1 (k + 200)).bind fun v6 => if (b2i v6.1) = 0 then some (false, v6.2) else (f_X4_readsDigits v6.2 (Int32.ofNat t + 1) (Int32.ofNat d) (k + 200)).bind fun v7 => if (b2i v7.1) = 0 then some (false, v7.2) else some (true, v7.2)) = some ((dsc (A 10) n (1 + d) p).1, (rst A2 (dsc (A 10) n (1 + d) p).2, B)) ∧ rdd A A2 b p t (dsc (A 10) n (1 + d) p).1 := by
  have h0 : f_X4_readsDigits (rst A p, B) (Int32.ofNat t) 1 (k + 200) = _ := m_rd k n p t 1 hn hp (by omega) (by omega) A B e5
  rw [h0, p_bs, dsc_add d 1 p]
  by_cases h1 : (dsc (A 10) n 1 p).1 = true
  · have hq := dsc_t _ _ h1
    have hle := dsc_le (T := A 10) (n := n) 1 p hp
    have hr := rd_r A t (vl (A 10) 1 p 0)
    rw [if_pos h1, if_pos h1]
    dsimp only
    rw [if_neg (show ¬ b2i true = 0 by decide), hq.1, ← p_succ, m_rd k n (p + 1) (t + 1) d hn (by omega) (by omega) (by omega) (kE A 13 t (vl (A 10) 1 p 0)) B (by rw [hr.1 0 (by decide)]; exact e5), p_bs, hr.1 10 (by decide)]
    by_cases h2 : (dsc (A 10) n d (p + 1)).1 = true
    · rw [if_pos h2, h2]
      dsimp only
      rw [if_neg (show ¬ b2i true = 0 by decide)]
      have hr2 := rd_r (kE A 13 t (vl (A 10) 1 p 0)) (t + 1) (vl (A 10) d (p + 1) 0)
      refine ⟨_, rfl, fun r hr3 => (hr2.1 r hr3).trans (hr.1 r hr3), fun z hz => (hr2.2.2 z (by omega)).trans (hr.2.2 z (by omega)), fun _ i hi => ?_⟩
      have : i = 0 ∨ i = 1 := by omega
      rcases this with rfl | rfl
      · rw [hv0]
        exact (hr2.2.2 t (by omega)).trans hr.2.1
      · rw [hv1]
        exact hr2.2.1
    · rw [if_neg h2, show (dsc (A 10) n d (p + 1)).1 = false by cases h : (dsc (A 10) n d (p + 1)).1; rfl; exact absurd h h2]
      dsimp only
      rw [if_pos (show b2i false = 0 by decide)]
      exact ⟨_, rfl, rdd_bad hr.1 (fun z hz => hr.2.2 z (by omega))⟩
  · rw [if_neg h1, if_neg h1, show (dsc (A 10) n 1 p).1 = false by cases h : (dsc (A 10) n 1 p).1; rfl; exact absurd h h1]
    dsimp only
    rw [if_pos (show b2i false = 0 by decide)]
    exact ⟨A, rfl, rdd_bad (fun _ _ => rfl) (fun _ _ => rfl)⟩
