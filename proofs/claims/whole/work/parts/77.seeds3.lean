theorem Rel.frame2 {S M S2 M2 : ST} (R : Rel S M) (hs : cS S S2) (hr : ∀ r, r ≠ 0 → r ≠ 5 → M2.1 r = M.1 r) (h0 : ∀ z, z < 12 → M2.1 0 z = M.1 0 z) (h5 : ∀ z, M2.1 5 z = M.1 5 z) : Rel S2 M2 := by
  refine R.now (R.k.congrP (fun r i h1 _ _ => ?_) (fun r i h1 h2 hz => ?_)) (R.g.congrP (fun r i h1 _ _ => ?_)) (fun r _ h2 h3 => hs r h2 h3) ⟨hr 1 (by decide) (by decide), hr 10 (by decide) (by decide), fun i _ => by rw [hr 14 (by decide) (by decide)], hr 15 (by decide) (by decide), h0 5 (by decide), h0 8 (by decide), h0 11 (by decide)⟩
  · rw [hs r (by omega) (by omega)]
  · rcases p_r9 h1 with rfl | rfl | rfl | rfl | rfl | rfl | rfl | rfl | rfl
    · rcases p_i5 (hz rfl) with rfl | rfl | rfl | rfl | rfl <;> exact h0 _ (by decide)
    · exact congrFun (hr 7 (by decide) (by decide)) i
    · exact congrFun (hr 8 (by decide) (by decide)) i
    · exact congrFun (hr 6 (by decide) (by decide)) i
    · exact congrFun (hr 9 (by decide) (by decide)) i
    · exact congrFun (hr 2 (by decide) (by decide)) i
    · exact congrFun (hr 3 (by decide) (by decide)) i
    · exact congrFun (hr 4 (by decide) (by decide)) i
    · exact h5 i
  · rw [hs r (by omega) (by omega)]
theorem o_big {S M : ST} (R : Rel S M) (k : Nat) (q0 q1 : Bool) {X Y : Option (Int32 × ST)} (h : q0 = true → q1 = true → jIn (S.1 0 0) (S.1 0 1) → O2 X Y) :
    O2 (if f_X3_refusalInHand S q0 q1 = 0 then X else some ((f_X3_refuseBig S (f_X3_refusalInHand S q0 q1)).1, (f_X3_refuseBig S (f_X3_refusalInHand S q0 q1)).2)) (if f_X3_refusalInHand S q0 q1 = 0 then Y else (f_X4_lower M (f_X3_refusalInHand S q0 q1) (k + 200)).bind fun v => some (v.1, v.2)) := by
  rcases rih_cases S q0 q1 with hz | ⟨hz, h0, h1, hj⟩
  · rw [if_neg hz, if_neg hz]
    exact ref_big R (rih_R hz) k
  · rw [if_pos hz, if_pos hz]
    exact h h0 h1 hj
theorem o_seeds {S M : ST} (R : Rel S M) (k : Nat) (w p1 z p3 : Int32) : O2 (f_X3_seeds S w p1 z p3 (k + 200)) (f_X4_seeds M w p1 z p3 (k + 200)) := by
  unfold f_X3_seeds f_X4_seeds
  rw [m_notBest R, m_bound, m_isIn1]
  refine o_big R k _ _ fun h0 _ hj => ?_
  by_cases hv : f_X3_refusalOutside p1 1 20 = 0
  · rw [if_pos hv, if_pos hv]
    cases h3 : f_X3_isOneOf p3 2
    · simp only [b2i_f0, if_true]
      exact ref_big R (Or.inr (Or.inl rfl)) k
    simp only [b2i_t0, if_false]
    have hn := out_0.mp hv
    obtain ⟨n, hn2, rfl⟩ := p_ix (n := 21) (by decide) (show 0 ≤ p1 by have := hn.1; grind) (show p1 < 21 by have := hn.2; grind)
    obtain ⟨S2, M2, h1, h2, T⟩ := think_both R hj k
    have hw := one_iff.mp h0
    have g := R.at hj
    have Tcs := T.2.1
    have T34 := T.2.2.2.2.2.1
    have Tpr := T.2.2.2.2.2.2.2.1
    have H := R.hm hj
    rw [h1, p_bs]
    obtain ⟨q, q2, S3, a1, a2⟩ := c_wks k (S.1 5 (jj S)) (S.1 6 (jj S)) (S.1 7 (jj S)) (S.1 0 3) w (S.1 8 (jj S)) n (by omega) n 0 (k + 199 - n) z 0 0 S2 (by omega) T34.1 T34.2.1 T34.2.2.1 T34.2.2.2 Tpr
    rw [show n + 1 + (k + 199 - n) = k + 200 by omega] at a1
    have a1' : f_X3_seeds_L72 w (Int32.ofNat n) (k + 200) (k + 200) z 0 0 0 S2 = _ := a1
    rw [a1', p_bs]
    obtain ⟨A, B⟩ := M
    dsimp only at H g
    have eh : A 0 1 = S.1 0 1 := R.k.1.2.1.symm
    obtain ⟨jh, hjh, ej⟩ := p_ix (n := 5) (by decide) g.2.1.1 g.2.1.2
    have ejj : jj S = jh := by unfold jj; rw [ej, p_tn (by omega)]
    rw [ej] at eh
    have gk : (S.1 5 jh = A 2 jh ∧ S.1 6 jh = A 3 jh ∧ S.1 7 jh = A 4 jh ∧ S.1 8 jh = A 5 jh) := by
      have := g.2.2.1
      rw [ej, p_tn (by omega)] at this
      exact this
    have gr : ((0 ≤ S.1 5 jh ∧ S.1 5 jh < 6) ∧ (0 ≤ S.1 6 jh ∧ S.1 6 jh ≤ 9) ∧ (1 ≤ S.1 7 jh ∧ S.1 7 jh ≤ 9) ∧ (0 ≤ S.1 8 jh ∧ S.1 8 jh ≤ 240)) := by
      have := g.2.2.2
      rw [ej, p_tn (by omega)] at this
      exact this
    rw [ejj]
    obtain ⟨q3, A2, B2, b1, b2, b3, b4⟩ := m_wks k (S.1 5 jh) (S.1 6 jh) (S.1 7 jh) (S.1 0 3) w (S.1 8 jh) gr.1 gr.2.1 gr.2.2.2 hw jh hjh n (by omega) n 0 (k + 199 - n) z 0 0 (kE A 0 14 z) B (by omega) eh gk.1.symm gk.2.1.symm gk.2.2.1.symm (show A 0 4 = S.1 0 3 from R.k.1.2.2.2.1.symm) rfl
    rw [show n + 1 + (k + 199 - n) = k + 200 by omega] at b1
    have b1' : f_X4_seeds_L77 w (Int32.ofNat n) (S.1 8 jh) (k + 200) (k + 200) 0 0 0 (kE A 0 14 z, B) = _ := b1
    have hb := p_nbi (i := jh) (n := 5) hjh (by decide)
    have eh2 : A2 0 1 = Int32.ofNat jh := (b3 1 (by decide)).trans eh
    dsimp only
    have hb1 : ¬ (A 0 1 < 0 ∨ 5 ≤ Int32.toNatClampNeg (A 0 1)) := by rw [eh, p_tn (by omega)]; exact hb
    have hb2 : ¬ (A2 0 1 < 0 ∨ 5 ≤ Int32.toNatClampNeg (A2 0 1)) := by rw [eh2, p_tn (by omega)]; exact hb
    rw [if_neg hb1, eh, p_tn (by omega), ← gk.2.2.2, show kS A 0 (upd (A 0) 14 z) = kE A 0 14 z from rfl, b1', p_bs]
    dsimp only
    rw [if_neg hb2, eh2, p_tn (by omega), show kS A2 5 (upd (A2 5) jh (S.1 8 jh)) = kE A2 5 jh (S.1 8 jh) from rfl]
    have RR : Rel S3 (kE A2 5 jh (S.1 8 jh), B2) := by
      refine R.frame2 (fun r h3 h4 => (a2 r h4).trans (Tcs r h3 h4)) (fun r hr hr2 => ?_) (fun y hy => ?_) (fun y => ?_)
      · show (if r = 5 then _ else A2 r) = A r
        rw [if_neg hr2, b4 r hr hr2]
        show (if r = 0 then _ else A r) = _
        rw [if_neg hr]
      · show kE A2 5 jh (S.1 8 jh) 0 y = A 0 y
        rw [kE_at, if_neg (by omega), b3 y hy, kE_at, if_neg (by omega)]
      · show kE A2 5 jh (S.1 8 jh) 5 y = A 5 y
        rw [kE_at]
        by_cases hy : y = jh
        · rw [if_pos ⟨rfl, hy⟩, hy]
          exact gk.2.2.2
        · rw [if_neg (fun t => hy t.2), b2 y hy, kE_at, if_neg (by omega)]
    by_cases hp : p3 = 0
    · rw [if_pos hp, if_pos hp]
      exact ⟨_, _, _, rfl, rfl, RR⟩
    · rw [if_neg hp, if_neg hp]
      exact ⟨_, _, _, rfl, rfl, RR⟩
  · rw [if_neg hv, if_neg hv]
    exact ref_big R (out_R hv) k
