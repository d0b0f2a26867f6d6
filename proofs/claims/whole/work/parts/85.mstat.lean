theorem dsc_f {T : Nat → Int32} {n d p : Nat} (h : ¬ (dsc T n d p).1 = true) : (dsc T n d p).1 = false := by
  cases h2 : (dsc T n d p).1
  · rfl
  · exact absurd h2 h
theorem m_raJ (k n p t : Nat) (hn : n ≤ 96) (hp : p ≤ n) (ht : t < 180) (A : Nat → Nat → Int32) (B : Nat → Nat → Int64) (e5 : A 0 5 = Int32.ofNat n) : ∃ A2, f_X4_readsAll (rst A p, B) 106 (Int32.ofNat t) (k + 200) = some ((dsc (A 10) n 6 p).1, (rst A2 (dsc (A 10) n 6 p).2, B)) ∧ rdd A A2 106 p t (dsc (A 10) n 6 p).1 := by
  unfold f_X4_readsAll
  rw [if_neg (by decide), if_pos rfl]
  have h0 : f_X4_readsDigits (rst A p, B) (Int32.ofNat t) 1 (k + 200) = _ := m_rd k n p t 1 hn hp (by omega) (by omega) A B e5
  have hr := rd_r A t (vl (A 10) 1 p 0)
  rw [h0, p_bs, show 6 = 1 + (1 + (1 + 3)) from rfl, dsc_add _ 1 p]
  by_cases h1 : (dsc (A 10) n 1 p).1 = true
  · have q1 := dsc_t _ _ h1
    have l1 := (dsc_le (T := A 10) (n := n) 1 p hp).1
    have g1 : f_X4_readsDigits (rst (kE A 13 t (vl (A 10) 1 p 0)) (p + 1), B) (Int32.ofNat (t + 1)) 1 (k + 200) = _ := m_rd k n (p + 1) (t + 1) 1 hn (by omega) (by omega) (by omega) (kE A 13 t (vl (A 10) 1 p 0)) B (by rw [hr.1 0 (by decide)]; exact e5)
    have hr1 := rd_r (kE A 13 t (vl (A 10) 1 p 0)) (t + 1) (vl (A 10) 1 (p + 1) 0)
    rw [hr.1 10 (by decide)] at g1
    rw [if_pos h1, if_pos h1]
    dsimp only
    rw [if_neg (show ¬ b2i true = 0 by decide), q1.1, ← p_succ, g1, p_bs, dsc_add _ 1 (p + 1)]
    by_cases h2 : (dsc (A 10) n 1 (p + 1)).1 = true
    · have q2 := dsc_t _ _ h2
      have l2 := (dsc_le (T := A 10) (n := n) 1 (p + 1) (by omega)).1
      have e2 : Int32.ofNat t + 2 = Int32.ofNat (t + 2) := by rw [Int32.ofNat_add]; rfl
      have e3 : Int32.ofNat t + 3 = Int32.ofNat (t + 3) := by rw [Int32.ofNat_add]; rfl
      have b0 : (kE (kE A 13 t (vl (A 10) 1 p 0)) 13 (t + 1) (vl (A 10) 1 (p + 1) 0)) 10 = A 10 := (hr1.1 10 (by decide)).trans (hr.1 10 (by decide))
      have b5 : (kE (kE A 13 t (vl (A 10) 1 p 0)) 13 (t + 1) (vl (A 10) 1 (p + 1) 0)) 0 5 = Int32.ofNat n := by rw [hr1.1 0 (by decide), hr.1 0 (by decide)]; exact e5
      have g2 : f_X4_readsDigits (rst (kE (kE A 13 t (vl (A 10) 1 p 0)) 13 (t + 1) (vl (A 10) 1 (p + 1) 0)) (p + 2), B) (Int32.ofNat (t + 2)) 1 (k + 200) = _ := m_rd k n (p + 2) (t + 2) 1 hn (by omega) (by omega) (by omega) _ B b5
      have hr2 := rd_r (kE (kE A 13 t (vl (A 10) 1 p 0)) 13 (t + 1) (vl (A 10) 1 (p + 1) 0)) (t + 2) (vl (A 10) 1 (p + 2) 0)
      rw [b0] at g2
      rw [if_pos h2, if_pos h2]
      dsimp only
      rw [if_neg (show ¬ b2i true = 0 by decide), q2.1, e2, show p + 1 + 1 = p + 2 from rfl, g2, p_bs, dsc_add _ 1 (p + 2)]
      by_cases h3 : (dsc (A 10) n 1 (p + 2)).1 = true
      · have q3 := dsc_t _ _ h3
        have l3 := (dsc_le (T := A 10) (n := n) 1 (p + 2) (by omega)).1
        have c0 : (kE (kE (kE A 13 t (vl (A 10) 1 p 0)) 13 (t + 1) (vl (A 10) 1 (p + 1) 0)) 13 (t + 2) (vl (A 10) 1 (p + 2) 0)) 10 = A 10 := (hr2.1 10 (by decide)).trans b0
        have g3 : f_X4_readsDigits (rst (kE (kE (kE A 13 t (vl (A 10) 1 p 0)) 13 (t + 1) (vl (A 10) 1 (p + 1) 0)) 13 (t + 2) (vl (A 10) 1 (p + 2) 0)) (p + 3), B) (Int32.ofNat (t + 3)) 3 (k + 200) = _ := m_rd k n (p + 3) (t + 3) 3 hn (by omega) (by omega) (by omega) _ B (by rw [hr2.1 0 (by decide)]; exact b5)
        have hr3 := rd_r (kE (kE (kE A 13 t (vl (A 10) 1 p 0)) 13 (t + 1) (vl (A 10) 1 (p + 1) 0)) 13 (t + 2) (vl (A 10) 1 (p + 2) 0)) (t + 3) (vl (A 10) 3 (p + 3) 0)
        rw [c0] at g3
        rw [if_pos h3, if_pos h3]
        dsimp only
        rw [if_neg (show ¬ b2i true = 0 by decide), q3.1, e3, show p + 2 + 1 = p + 3 from rfl, g3, p_bs]
        have fr : ∀ r, r ≠ 13 → (kE (kE (kE A 13 t (vl (A 10) 1 p 0)) 13 (t + 1) (vl (A 10) 1 (p + 1) 0)) 13 (t + 2) (vl (A 10) 1 (p + 2) 0)) r = A r := fun r h => (hr2.1 r h).trans ((hr1.1 r h).trans (hr.1 r h))
        have fz : ∀ z, z < t → (kE (kE (kE A 13 t (vl (A 10) 1 p 0)) 13 (t + 1) (vl (A 10) 1 (p + 1) 0)) 13 (t + 2) (vl (A 10) 1 (p + 2) 0)) 13 z = A 13 z := fun z h => (hr2.2.2 z (by omega)).trans ((hr1.2.2 z (by omega)).trans (hr.2.2 z (by omega)))
        by_cases h4 : (dsc (A 10) n 3 (p + 3)).1 = true
        · rw [if_pos h4, h4]
          dsimp only
          rw [if_neg (show ¬ b2i true = 0 by decide)]
          refine ⟨_, rfl, fun r h => (hr3.1 r h).trans (fr r h), fun z h => (hr3.2.2 z (by omega)).trans (fz z h), fun _ i hi => ?_⟩
          have hi4 : i < 4 := hi
          have : i = 0 ∨ i = 1 ∨ i = 2 ∨ i = 3 := by omega
          rcases this with rfl | rfl | rfl | rfl
          · exact (hr3.2.2 t (by omega)).trans ((hr2.2.2 t (by omega)).trans ((hr1.2.2 t (by omega)).trans hr.2.1))
          · exact (hr3.2.2 (t + 1) (by omega)).trans ((hr2.2.2 (t + 1) (by omega)).trans hr1.2.1)
          · exact (hr3.2.2 (t + 2) (by omega)).trans hr2.2.1
          · exact hr3.2.1
        · rw [if_neg h4, dsc_f h4]
          dsimp only
          rw [if_pos (show b2i false = 0 by decide)]
          exact ⟨_, rfl, rdd_bad fr fz⟩
      · rw [if_neg h3, if_neg h3, dsc_f h3]
        dsimp only
        rw [if_pos (show b2i false = 0 by decide)]
        exact ⟨_, rfl, rdd_bad (fun r h => (hr1.1 r h).trans (hr.1 r h)) (fun z h => (hr1.2.2 z (by omega)).trans (hr.2.2 z (by omega)))⟩
    · rw [if_neg h2, if_neg h2, dsc_f h2]
      dsimp only
      rw [if_pos (show b2i false = 0 by decide)]
      exact ⟨_, rfl, rdd_bad hr.1 (fun z h => hr.2.2 z (by omega))⟩
  · rw [if_neg h1, if_neg h1, dsc_f h1]
    dsimp only
    rw [if_pos (show b2i false = 0 by decide)]
    exact ⟨A, rfl, rdd_bad (fun _ _ => rfl) (fun _ _ => rfl)⟩
theorem p_bp {α β : Type} (o : Option (α × β)) : (o.bind fun v => some (v.1, v.2)) = o := by
  cases o <;> rfl
theorem m_readsAll (k n p t : Nat) (hn : n ≤ 96) (hp : p ≤ n) (ht : t < 180) (A : Nat → Nat → Int32) (B : Nat → Nat → Int64) (e5 : A 0 5 = Int32.ofNat n) (b : Int32) (hb : vld b) : ∃ A2, f_X4_readsAll (rst A p, B) b (Int32.ofNat t) (k + 200) = some ((dsc (A 10) n (dgn b) p).1, (rst A2 (dsc (A 10) n (dgn b) p).2, B)) ∧ rdd A A2 b p t (dsc (A 10) n (dgn b) p).1 := by
  rcases hb with rfl | rfl | rfl | rfl | rfl | rfl | rfl | rfl
  · exact m_raJ k n p t hn hp ht A B e5
  · unfold f_X4_readsAll
    rw [if_pos rfl, p_bp]
    exact m_ra1 k n p t hn hp ht A B e5 99 2 (by decide) rfl rfl
  · unfold f_X4_readsAll
    rw [if_neg (by decide), if_neg (by decide), if_neg (by decide), if_neg (by decide), if_pos rfl]
    exact m_ra2 k n p t hn hp ht A B e5 119 2 (by decide) rfl rfl rfl
  · unfold f_X4_readsAll
    rw [if_neg (by decide), if_neg (by decide), if_neg (by decide), if_pos rfl]
    exact m_ra2 k n p t hn hp ht A B e5 116 1 (by decide) rfl rfl rfl
  · unfold f_X4_readsAll
    rw [if_neg (by decide), if_neg (by decide), if_neg (by decide), if_neg (by decide), if_neg (by decide), p_bp]
    exact m_ra1 k n p t hn hp ht A B e5 112 1 (by decide) rfl rfl
  · unfold f_X4_readsAll
    rw [if_neg (by decide), if_neg (by decide), if_neg (by decide), if_neg (by decide), if_neg (by decide), p_bp]
    exact m_ra1 k n p t hn hp ht A B e5 104 1 (by decide) rfl rfl
  · unfold f_X4_readsAll
    rw [if_neg (by decide), if_neg (by decide), if_pos rfl]
    exact m_ra2 k n p t hn hp ht A B e5 115 1 (by decide) rfl rfl rfl
  · unfold f_X4_readsAll
    rw [if_neg (by decide), if_neg (by decide), if_neg (by decide), if_neg (by decide), if_neg (by decide), p_bp]
    exact m_ra1 k n p t hn hp ht A B e5 117 1 (by decide) rfl rfl
