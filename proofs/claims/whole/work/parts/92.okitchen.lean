/-! kitchen(), both sides -/
theorem dsc_c {T U : Nat → Int32} {n : Nat} (h : ∀ z, z < n → T z = U z) : ∀ d p, dsc T n d p = dsc U n d p := by
  intro d
  induction d with
  | zero => intro p; rfl
  | succ d ih =>
    intro p
    rw [dsc, dsc]
    by_cases hp : p < n
    · rw [h p hp, ih]
    · rw [if_neg (fun z => hp z.1), if_neg (fun z => hp z.1)]
theorem stp_c {T U : Nat → Int32} {n : Nat} (h : ∀ z, z < n → T z = U z) (p : Nat) (ok : Bool) : stp T n p ok = stp U n p ok := by
  unfold stp
  by_cases hp : p < n ∧ ok = true
  · rw [if_pos hp, if_pos hp, h p hp.1, dsc_c h]
    by_cases h2 : (dsc U n (dgn (U p)) (p + 1)).2 < n
    · rw [h _ h2]
    · have h3 : ¬ ((dsc U n (dgn (U p)) (p + 1)).2 < n ∧ T (dsc U n (dgn (U p)) (p + 1)).2 = 59) := fun z => h2 z.1
      have h4 : ¬ ((dsc U n (dgn (U p)) (p + 1)).2 < n ∧ U (dsc U n (dgn (U p)) (p + 1)).2 = 59) := fun z => h2 z.1
      rw [if_neg h3, if_neg h4]
  · rw [if_neg hp, if_neg hp]
theorem wlk_c {T U : Nat → Int32} {n : Nat} (h : ∀ z, z < n → T z = U z) (V : Int32 → Bool) : ∀ m p, wlk T n V m p = wlk U n V m p := by
  intro m
  induction m with
  | zero => intro p; rfl
  | succ m ih =>
    intro p
    rw [wlk, wlk]
    by_cases hp : n ≤ p
    · rw [if_pos hp, if_pos hp]
    · rw [if_neg hp, if_neg hp, h p (by omega), stp_c h, ih]
theorem wlk_le {T : Nat → Int32} {n : Nat} (V : Int32 → Bool) : ∀ m p, p ≤ n → (wlk T n V m p).2 ≤ n := by
  intro m
  induction m with
  | zero => intro p h; exact h
  | succ m ih =>
    intro p h
    rw [wlk]
    by_cases hp : n ≤ p
    · rw [if_pos hp]; exact h
    · rw [if_neg hp]
      by_cases h2 : (stp T n p (V (T p))).1 = true
      · rw [if_pos h2]
        have q := stp_le h2
        exact ih _ (by rw [q.1]; exact q.2.1)
      · rw [if_neg h2]
        unfold stp
        have hd : ∀ d, (dsc T n d (p + 1)).2 ≤ n := fun d => (dsc_le d (p + 1) (by omega)).1
        split
        · split
          · split
            · omega
            · exact hd _
          · exact hd _
        · exact h
theorem m_k12z (k : Nat) (A : Nat → Nat → Int32) (B : Nat → Nat → Int64) (e5 : A 0 5 = 0) (e7 : A 0 7 = 0) : ∃ A2, f_X4_kitchen_L12 (k + 200) (k + 200) 1 (rst A 0, B) = some (0, (rst A2 0, B)) ∧ (∀ r, r ≠ 0 → r ≠ 11 → r ≠ 12 → r ≠ 13 → A2 r = A r) ∧ ∀ z, z ≠ 7 → A2 0 z = A 0 z := by
  obtain ⟨A2, a1, a2, -⟩ := m_stat k 0 0 0 (by decide) (by decide) (by decide) A B e5 e7
  have hs : stp (A 10) 0 0 (vb (A 10 0)) = (false, 0) := by
    unfold stp
    rw [if_neg (fun z => absurd z.1 (by omega))]
  rw [hs] at a1
  have a1' : f_X4_statement (rst A 0, B) (k + 200) = some (false, (rst A2 0, B)) := a1
  have a20 : A2 0 = A 0 := a2.1 0 (by decide) (by decide) (by decide)
  refine ⟨kE A2 0 7 (A2 0 7 + 0), ?_, fun r h1 h2 h3 h4 => ?_, fun z hz => ?_⟩
  · rw [show k + 200 = (k + 198) + 1 + 1 by omega, f_X4_kitchen_L12, if_neg (show ¬ (1 : Int32) = 0 by decide), show (k + 198) + 1 + 1 = k + 200 by omega]
    have h6 : ¬ (rst A 0, B).1 0 6 < (rst A 0, B).1 0 5 := by
      show ¬ rst A 0 0 6 < rst A 0 0 5
      rw [rst_6, rst_at A 0 0 5 (by omega), e5]
      decide
    rw [if_neg h6, if_pos (show (rst A 0, B).1 0 7 = 0 from (rst_at A 0 0 7 (by omega)).trans e7), a1', p_bs, if_pos (show b2i false = 0 by decide)]
    rw [f_X4_kitchen_L12, if_pos (show b2i false = 0 by decide)]
    have e : kS (rst A2 0) 0 (upd (rst A2 0 0) 7 (rst A2 0 0 7 + 0)) = rst (kE A2 0 7 (A2 0 7 + 0)) 0 := by
      have := rst_kE A2 0 0 7 (A2 0 7 + 0) (by omega)
      rw [← this, show rst A2 0 0 7 = A2 0 7 from rst_at A2 0 0 7 (by omega)]
      rfl
    show some (b2i false, (kS (rst A2 0) 0 (upd (rst A2 0 0) 7 (rst A2 0 0 7 + 0)), B)) = _
    rw [e]
    rfl
  · show (if r = 0 then _ else A2 r) = _
    rw [if_neg h1]
    exact a2.1 r h2 h3 h4
  · rw [kE_at, if_neg (by omega), a20]
theorem o_kitchen {S M : ST} (R : Rel S M) (k : Nat) (y : Nat → Nat → Nat) : O2y (f_X3_kitchen y S (k + 200)) (f_X4_kitchen M (k + 200)) := by
  obtain ⟨e5, ⟨h0, h96⟩, el⟩ := R.2.2.2.1
  obtain ⟨n, hn97, en⟩ := p_ix (n := 97) (by decide) h0 (show S.1 30 1 < 97 by grind)
  have hn : n ≤ 96 := by omega
  have eM5 : M.1 0 5 = Int32.ofNat n := e5.symm.trans en
  have hw : wlk (S.1 31) n vb 33 0 = wlk (M.1 10) n vb 33 0 := wlk_c (fun z hz => el z (by omega)) vb 33 0
  have hq := wlk_le (T := M.1 10) (n := n) vb 33 0 (by omega)
  unfold f_X3_kitchen f_X4_kitchen
  rw [en, c_fb k n hn S, p_bs, rst0, hw]
  by_cases h1 : n = 0
  · subst h1
    obtain ⟨A2, a1, a2, a3⟩ := m_k12z k (kE M.1 0 7 0) M.2 (by rw [kE_at, if_neg (by omega)]; exact eM5) (by rw [kE_at, if_pos ⟨rfl, rfl⟩])
    have w0 : wlk (M.1 10) 0 vb 33 0 = (true, 0) := by
      rw [wlk, if_pos (Nat.le_refl 0)]
    rw [a1, p_bs, w0, if_pos (show (true, 0).1 = true from rfl), if_pos (show 0 = 0 from rfl), if_neg (show ¬ (0 : Int32) < 0 by decide), if_pos (show (0, (rst A2 0, M.2)).1 = (0 : Int32) from rfl)]
    dsimp only
    rw [rst_6]
    refine o_kbad R (-1000 - 0) y (A := rst A2 0) ⟨fun r h1 h2 h3 h4 => ?_, fun z h1 h2 h3 => ?_⟩
    · rw [rst_r A2 0 r h1, a2 r h1 h2 h3 h4]
      show (if r = 0 then _ else M.1 r) = _
      rw [if_neg h1]
    · rw [rst_at A2 0 0 z (by omega), a3 z h3, kE_at, if_neg (by omega)]
  · obtain ⟨A2, a1, a2, a3, a4⟩ := m_k12 k n hn M.2 32 0 0 (k + 166) (kE M.1 0 7 0) (by omega) (by omega) (by omega) (fun _ => by omega) (by rw [kE_at, if_neg (by omega)]; exact eM5) (by rw [kE_at, if_pos ⟨rfl, rfl⟩]; rfl) rfl (fun t ht => absurd ht (by omega))
    rw [show 32 + 2 + (k + 166) = k + 200 by omega] at a1
    have hT : kE M.1 0 7 0 10 = M.1 10 := rfl
    rw [hT] at a1 a4
    rw [a1, p_bs]
    have hmr : mR M.1 (rst A2 (wlk (M.1 10) n vb 33 0).2) := ⟨fun r h1 h2 h3 h4 => by
      rw [rst_r A2 _ r h1, a2 r h1 h2 h3 h4]
      show (if r = 0 then _ else M.1 r) = _
      rw [if_neg h1], fun z h1 h2 h3 => by
      rw [rst_at A2 _ 0 z (by omega), a3 z h3, kE_at, if_neg (by omega)]⟩
    by_cases h2 : (wlk (M.1 10) n vb 33 0).1 = true
    · rw [if_pos h2, if_neg h1, if_pos (show (-1 : Int32) < 0 by decide), h2]
      obtain ⟨s2, b1, b2, b3, b4, b5⟩ := a4 h2
      dsimp only
      rw [if_neg (show ¬ b2i true = 0 by decide)]
      have A10 : A2 10 = M.1 10 := (a2 10 (by decide) (by decide) (by decide) (by decide)).trans rfl
      refine o_kgood R k n s2 y hmr hn b2 (fun z hz => ?_) ?_ ?_ (fun t ht => ?_)
      · rw [rst_r A2 _ 10 (by decide), A10]
        exact el z hz
      · rw [rst_at A2 _ 0 7 (by omega)]
        exact b3
      · rw [rst_r A2 _ 10 (by decide), A10]
        exact b4
      · have := b5 t ht
        unfold rec1 at this ⊢
        rw [rst_r A2 _ 10 (by decide), rst_r A2 _ 11 (by decide), rst_r A2 _ 12 (by decide), rst_r A2 _ 13 (by decide)]
        exact this
    · have h3 : (wlk (M.1 10) n vb 33 0).1 = false := by
        cases h9 : (wlk (M.1 10) n vb 33 0).1
        · rfl
        · exact absurd h9 h2
      rw [if_neg h2, h3]
      dsimp only
      rw [if_pos (show b2i false = 0 by decide), rst_6, if_neg (show ¬ Int32.ofNat (wlk (M.1 10) n vb 33 0).2 < 0 from fun z => by
        have := (p_lt (b := 0) (by omega) (by omega)).mp z
        omega)]
      exact o_kbad R _ y hmr
