/-- what a statement read leaves, but the place -/
def sfr (A A2 : Nat → Nat → Int32) (s : Nat) : Prop := (∀ r, r ≠ 11 → r ≠ 12 → r ≠ 13 → A2 r = A r) ∧ (∀ z, z < s → A2 11 z = A 11 z ∧ A2 12 z = A 12 z) ∧ ∀ z, z < 4 * s → A2 13 z = A 13 z
theorem m_stat1 (k : Nat) (A : Nat → Nat → Int32) (B : Nat → Nat → Int64) (p s : Nat) (hs : s < 45) (e7 : A 0 7 = Int32.ofNat s) (b : Int32) (hb : vld b) (hnx : f_X4_next (rst A p, B) (k + 200) = some b) : f_X4_statement (rst A p, B) (k + 200) = (f_X4_readsAll (rst (kE (kE A 11 s b) 12 s (Int32.ofNat p)) (p + 1), B) b (Int32.ofNat (4 * s)) (k + 200)).bind fun v2 => if (b2i v2.1) = 0 then some (false, v2.2) else (f_X4_next v2.2 (k + 200)).bind fun v3 => if v3 = 59 then some (true, ((kS v2.2.1 0 (upd (v2.2.1 0) 6 ((v2.2.1 0 6) + 1))), v2.2.2)) else some (false, v2.2) := by
  have hb48 := p_nbi (i := s) (n := 48) (by omega) (by decide)
  have h7 : rst A p 0 7 = Int32.ofNat s := (rst_at A p 0 7 (by omega)).trans e7
  have h4 : (4 : Int32) * Int32.ofNat s = Int32.ofNat (4 * s) := by rw [Int32.ofNat_mul]; rfl
  have hst : ∀ b, kS (kS (kS (rst A p) 0 (upd (rst A p 0) 6 (Int32.ofNat p + 1))) 11 (upd (rst A p 11) s b)) 12 (upd (rst A p 12) s (Int32.ofNat p)) = rst (kE (kE A 11 s b) 12 s (Int32.ofNat p)) (p + 1) := fun b => by
    rw [← p_succ]
    funext r i
    unfold rst
    simp only [kE_at]
    unfold kS upd
    by_cases h12 : r = 12
    · subst h12
      by_cases hi : i = s
      · simp [hi]
      · simp [hi, kE_at]
    · by_cases h11 : r = 11
      · subst h11
        by_cases hi : i = s
        · simp [hi]
        · simp [hi, kE_at]
      · by_cases h0 : r = 0
        · subst h0
          by_cases hi : i = 6
          · simp [hi]
          · simp [hi, kE_at]
        · simp [h12, h11, h0, kE_at]
  unfold f_X4_statement
  rw [hnx, p_bs]
  simp only [h7, rst_6, p_tn (show s < 2147483648 by omega), if_neg hb48, h4, hst]
  rcases hb with rfl | rfl | rfl | rfl | rfl | rfl | rfl | rfl
  · rw [if_pos rfl]
  · rw [if_neg (by decide), if_pos rfl]
  · rw [if_neg (by decide), if_neg (by decide), if_pos rfl]
  · rw [if_neg (by decide), if_neg (by decide), if_neg (by decide), if_pos rfl]
  · rw [if_neg (by decide), if_neg (by decide), if_neg (by decide), if_neg (by decide), if_pos rfl]
  · rw [if_neg (by decide), if_neg (by decide), if_neg (by decide), if_neg (by decide), if_neg (by decide), if_pos rfl]
  · rw [if_neg (by decide), if_neg (by decide), if_neg (by decide), if_neg (by decide), if_neg (by decide), if_neg (by decide), if_pos rfl]
  · rw [if_neg (by decide), if_neg (by decide), if_neg (by decide), if_neg (by decide), if_neg (by decide), if_neg (by decide), if_neg (by decide), if_pos rfl]
theorem m_stat0 (k : Nat) (X : ST) (b : Int32) (hb : ¬ vld b) (hnx : f_X4_next X (k + 200) = some b) : f_X4_statement X (k + 200) = some (false, X) := by
  unfold vld at hb
  simp only [not_or] at hb
  unfold f_X4_statement
  rw [hnx, p_bs, if_neg hb.1, if_neg hb.2.1, if_neg hb.2.2.1, if_neg hb.2.2.2.1, if_neg hb.2.2.2.2.1, if_neg hb.2.2.2.2.2.1, if_neg hb.2.2.2.2.2.2.1, if_neg hb.2.2.2.2.2.2.2]
theorem m_stat (k n p s : Nat) (hn : n ≤ 96) (hp : p ≤ n) (hs : s < 45) (A : Nat → Nat → Int32) (B : Nat → Nat → Int64) (e5 : A 0 5 = Int32.ofNat n) (e7 : A 0 7 = Int32.ofNat s) : ∃ A2, f_X4_statement (rst A p, B) (k + 200) = some ((stp (A 10) n p (vb (A 10 p))).1, (rst A2 (stp (A 10) n p (vb (A 10 p))).2, B)) ∧ sfr A A2 s ∧ ((stp (A 10) n p (vb (A 10 p))).1 = true → A2 11 s = A 10 p ∧ A2 12 s = Int32.ofNat p ∧ ∀ i, i < gn (A 10 p) → A2 13 (4 * s + i) = gv (A 10 p) (A 10) (p + 1) i) := by
  have hnx := m_next k n p hn hp A B e5
  by_cases h1 : p < n ∧ vld (A 10 p)
  · rw [if_pos h1.1] at hnx
    have hvb := vb_iff.mpr h1.2
    rw [m_stat1 k A B p s hs e7 _ h1.2 hnx, hvb]
    have er : ∀ r, r ≠ 11 → r ≠ 12 → kE (kE A 11 s (A 10 p)) 12 s (Int32.ofNat p) r = A r := fun r h2 h3 => by
      show (if r = 12 then _ else (if r = 11 then _ else A r)) = _
      rw [if_neg h3, if_neg h2]
    obtain ⟨A2, a1, a2, a3, a4⟩ := m_readsAll k n (p + 1) (4 * s) hn (by omega) (by omega) (kE (kE A 11 s (A 10 p)) 12 s (Int32.ofNat p)) B (by rw [er 0 (by decide) (by decide)]; exact e5) (A 10 p) h1.2
    rw [er 10 (by decide) (by decide)] at a1 a4
    rw [a1, p_bs]
    dsimp only
    have hle := dsc_le (T := A 10) (n := n) (dgn (A 10 p)) (p + 1) (by omega)
    have f : sfr A A2 s := by
      refine ⟨fun r h2 h3 h4 => (a2 r h4).trans (er r h2 h3), fun z hz => ⟨?_, ?_⟩, fun z hz => ?_⟩
      · rw [a2 11 (by decide), kE_at, if_neg (by omega), kE_at, if_neg (by omega)]
      · rw [a2 12 (by decide), kE_at, if_neg (by omega), kE_at, if_neg (by omega)]
      · rw [a3 z hz, kE_at, if_neg (by omega), kE_at, if_neg (by omega)]
    have e10 : A2 10 = A 10 := (a2 10 (by decide)).trans (er 10 (by decide) (by decide))
    have e5' : A2 0 5 = Int32.ofNat n := by rw [a2 0 (by decide), er 0 (by decide) (by decide)]; exact e5
    by_cases h2 : (dsc (A 10) n (dgn (A 10 p)) (p + 1)).1 = true
    · have hstp : stp (A 10) n p true = if (dsc (A 10) n (dgn (A 10 p)) (p + 1)).2 < n ∧ A 10 (dsc (A 10) n (dgn (A 10 p)) (p + 1)).2 = 59 then (true, (dsc (A 10) n (dgn (A 10 p)) (p + 1)).2 + 1) else (false, (dsc (A 10) n (dgn (A 10 p)) (p + 1)).2) := by
        unfold stp
        rw [if_pos ⟨h1.1, rfl⟩, if_pos h2]
      have hnx2 := m_next k n (dsc (A 10) n (dgn (A 10 p)) (p + 1)).2 hn hle.1 A2 B e5'
      rw [e10] at hnx2
      have a4' := a4 h2
      rw [h2, if_neg (show ¬ b2i true = 0 by decide), hnx2, p_bs, hstp]
      generalize (dsc (A 10) n (dgn (A 10 p)) (p + 1)).2 = q at *
      by_cases h3 : q < n ∧ A 10 q = 59
      · rw [if_pos h3.1, if_pos h3.2, if_pos h3]
        refine ⟨A2, ?_, f, fun _ => ⟨?_, ?_, a4'⟩⟩
        · rw [rst_6, ← p_succ, ← rst_rst A2 q (q + 1)]
          rfl
        · rw [a2 11 (by decide), kE_at, if_neg (by omega), kE_at, if_pos ⟨rfl, rfl⟩]
        · rw [a2 12 (by decide), kE_at, if_pos ⟨rfl, rfl⟩]
      · rw [if_neg h3]
        refine ⟨A2, ?_, f, fun z => absurd z (hF _)⟩
        by_cases h4 : q < n
        · rw [if_pos h4, if_neg (fun z => h3 ⟨h4, z⟩)]
        · rw [if_neg h4, if_neg (by decide)]
    · have hstp : stp (A 10) n p true = (false, (dsc (A 10) n (dgn (A 10 p)) (p + 1)).2) := by
        unfold stp
        rw [if_pos ⟨h1.1, rfl⟩, if_neg h2]
      rw [dsc_f h2, if_pos (show b2i false = 0 by decide), hstp]
      exact ⟨A2, rfl, f, fun z => absurd z (hF _)⟩
  · have hstp : stp (A 10) n p (vb (A 10 p)) = (false, p) := by
      unfold stp
      rw [if_neg (fun z => h1 ⟨z.1, vb_iff.mp z.2⟩)]
    rw [hstp]
    refine ⟨A, ?_, ⟨fun _ _ _ _ => rfl, fun _ _ => ⟨rfl, rfl⟩, fun _ _ => rfl⟩, fun z => absurd z (hF _)⟩
    refine m_stat0 k _ _ ?_ hnx
    by_cases h2 : p < n
    · rw [if_pos h2]
      exact fun z => h1 ⟨h2, z⟩
    · rw [if_neg h2]
      unfold vld
      decide
/-- where the statements begin -/
def ps (T : Nat → Int32) : Nat → Nat
  | 0 => 0
  | t + 1 => ps T t + dgn (T (ps T t)) + 2
def rec1 (A : Nat → Nat → Int32) (n t : Nat) : Prop := (stp (A 10) n (ps (A 10) t) (vb (A 10 (ps (A 10) t)))).1 = true ∧ A 11 t = A 10 (ps (A 10) t) ∧ A 12 t = Int32.ofNat (ps (A 10) t) ∧ ∀ i, i < gn (A 10 (ps (A 10) t)) → A 13 (4 * t + i) = gv (A 10 (ps (A 10) t)) (A 10) (ps (A 10) t + 1) i
theorem gn_le (b : Int32) : gn b ≤ 4 := by
  unfold gn
  split
  · omega
  split <;> omega
theorem m_k12 (k n : Nat) (hn : n ≤ 96) (B : Nat → Nat → Int64) : ∀ (m s p j : Nat) (A : Nat → Nat → Int32), n ≤ p + 3 * m → p ≤ n → 3 * s ≤ p → (s = 0 → p < n) → A 0 5 = Int32.ofNat n → A 0 7 = Int32.ofNat s → ps (A 10) s = p → (∀ t, t < s → rec1 A n t) → ∃ A2, f_X4_kitchen_L12 (k + 200) (m + 2 + j) 1 (rst A p, B) = some (b2i (wlk (A 10) n vb (m + 1) p).1, (rst A2 (wlk (A 10) n vb (m + 1) p).2, B)) ∧ (∀ r, r ≠ 0 → r ≠ 11 → r ≠ 12 → r ≠ 13 → A2 r = A r) ∧ (∀ z, z ≠ 7 → A2 0 z = A 0 z) ∧ ((wlk (A 10) n vb (m + 1) p).1 = true → ∃ s2, 0 < s2 ∧ s2 ≤ 32 ∧ A2 0 7 = Int32.ofNat s2 ∧ ps (A 10) s2 = n ∧ ∀ t, t < s2 → rec1 A2 n t) := by
  intro m
  induction m with
  | zero =>
    intro s p j A h hp h3 hs0 e5 e7 hps hrec
    obtain rfl : p = n := by omega
    have hs : s ≠ 0 := fun z => by have := hs0 z; omega
    have hw : wlk (A 10) p vb (0 + 1) p = (true, p) := by rw [wlk, if_pos (Nat.le_refl _)]
    rw [hw]
    refine ⟨A, ?_, fun _ _ _ _ _ => rfl, fun _ _ => rfl, fun _ => ⟨s, by omega, by omega, e7, hps, hrec⟩⟩
    rw [show 0 + 2 + j = (1 + j) + 1 by omega, f_X4_kitchen_L12, if_neg (by decide)]
    dsimp only
    rw [if_neg (show ¬ rst A p 0 6 < rst A p 0 5 by rw [rst_6, rst_at A p 0 5 (by omega), e5]; intro z; have := (p_lt (by omega) (by omega)).mp z; omega), if_neg (show ¬ rst A p 0 7 = 0 by rw [rst_at A p 0 7 (by omega), e7]; exact p_ne0 (by omega) (by omega))]
    rfl
  | succ m ih =>
    intro s p j A h hp h3 hs0 e5 e7 hps hrec
    rw [wlk]
    by_cases hnp : n ≤ p
    · obtain rfl : p = n := by omega
      have hs : s ≠ 0 := fun z => by have := hs0 z; omega
      rw [if_pos (Nat.le_refl _)]
      refine ⟨A, ?_, fun _ _ _ _ _ => rfl, fun _ _ => rfl, fun _ => ⟨s, by omega, by omega, e7, hps, hrec⟩⟩
      rw [show m + 1 + 2 + j = (m + 2 + j) + 1 by omega, f_X4_kitchen_L12, if_neg (by decide)]
      dsimp only
      rw [if_neg (show ¬ rst A p 0 6 < rst A p 0 5 by rw [rst_6, rst_at A p 0 5 (by omega), e5]; intro z; have := (p_lt (by omega) (by omega)).mp z; omega), if_neg (show ¬ rst A p 0 7 = 0 by rw [rst_at A p 0 7 (by omega), e7]; exact p_ne0 (by omega) (by omega))]
      rfl
    · rw [if_neg hnp]
      obtain ⟨A2, a1, a2, a3⟩ := m_stat k n p s hn hp (by omega) A B e5 e7
      have a20 : A2 0 = A 0 := a2.1 0 (by decide) (by decide) (by decide)
      have a210 : A2 10 = A 10 := a2.1 10 (by decide) (by decide) (by decide)
      have e67 : ∀ (q : Nat) (v : Int32), kS (rst A2 q) 0 (upd (rst A2 q 0) 7 v) = rst (kE A2 0 7 v) q := fun q v => rst_kE A2 q 0 7 v (by omega)
      rw [show m + 1 + 2 + j = (m + 2 + j) + 1 by omega, f_X4_kitchen_L12, if_neg (by decide)]
      dsimp only
      rw [if_pos (show rst A p 0 6 < rst A p 0 5 by rw [rst_6, rst_at A p 0 5 (by omega), e5]; exact (p_lt (by omega) (by omega)).mpr (by omega)), a1, p_bs]
      by_cases hok : (stp (A 10) n p (vb (A 10 p))).1 = true
      · have hst := stp_le hok
        have a3' := a3 hok
        rw [hok, if_pos rfl, if_neg (show ¬ b2i true = 0 by decide)]
        dsimp only
        rw [e67, rst_at A2 _ 0 7 (by omega), a20, e7, ← p_succ, hst.1]
        have k0 : ∀ r, r ≠ 0 → kE A2 0 7 (Int32.ofNat (s + 1)) r = A2 r := fun r hr => by
          show (if r = 0 then _ else A2 r) = _
          rw [if_neg hr]
        have hk10 : kE A2 0 7 (Int32.ofNat (s + 1)) 10 = A 10 := (k0 10 (by decide)).trans a210
        have hps1 : ps (A 10) (s + 1) = p + dgn (A 10 p) + 2 := by rw [ps, hps]
        have hrec' : ∀ t, t < s + 1 → rec1 (kE A2 0 7 (Int32.ofNat (s + 1))) n t := fun t ht => by
          unfold rec1
          rw [hk10, k0 11 (by decide), k0 12 (by decide), k0 13 (by decide)]
          by_cases h4 : t = s
          · subst h4
            rw [hps]
            exact ⟨hok, a3'⟩
          · have h5 := hrec t (by omega)
            unfold rec1 at h5
            have h6 := a2.2.1 t (by omega)
            rw [h6.1, h6.2]
            refine ⟨h5.1, h5.2.1, h5.2.2.1, fun i hi => ?_⟩
            have := gn_le (A 10 (ps (A 10) t))
            rw [a2.2.2 (4 * t + i) (by omega)]
            exact h5.2.2.2 i hi
        have hd := dgn_in (A 10 p)
        obtain ⟨A3, b1, b2, b3, b4⟩ := ih (s + 1) (p + dgn (A 10 p) + 2) j (kE A2 0 7 (Int32.ofNat (s + 1))) (by omega) hst.2.1 (by omega) (fun z => by omega) (by rw [kE_at, if_neg (by omega), a20]; exact e5) (by rw [kE_at, if_pos ⟨rfl, rfl⟩]) (by rw [hk10]; exact hps1) hrec'
        rw [hk10] at b1 b4
        refine ⟨A3, b1, fun r h4 h5 h6 h7 => (b2 r h4 h5 h6 h7).trans ((k0 r h4).trans (a2.1 r h5 h6 h7)), fun z hz => ?_, b4⟩
        rw [b3 z hz, kE_at, if_neg (by omega), a20]
      · rw [show (stp (A 10) n p (vb (A 10 p))).1 = false by cases h9 : (stp (A 10) n p (vb (A 10 p))).1; rfl; exact absurd h9 hok, if_pos (show b2i false = 0 by decide), if_neg (show ¬ (false = true) by decide)]
        dsimp only
        rw [e67, rst_at A2 _ 0 7 (by omega), a20]
        refine ⟨kE A2 0 7 (A 0 7 + 0), ?_, fun r h4 h5 h6 h7 => ?_, fun z hz => ?_, fun z => absurd z hok⟩
        · rw [show m + 2 + j = (m + 1 + j) + 1 by omega, f_X4_kitchen_L12, if_pos (show b2i false = 0 by decide)]
          rw [show (stp (A 10) n p (vb (A 10 p))).1 = false by cases h9 : (stp (A 10) n p (vb (A 10 p))).1; rfl; exact absurd h9 hok]
        · show (if r = 0 then _ else A2 r) = _
          rw [if_neg h4]
          exact a2.1 r h5 h6 h7
        · rw [kE_at, if_neg (by omega), a20]
