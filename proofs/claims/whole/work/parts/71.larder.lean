/-! larder, buy -/
def mn (a b : Int32) : Int32 := if a < b then a else b
theorem m_take (k n : Nat) (A : Nat → Nat → Int32) (B : Nat → Nat → Int64) (x : Int32) (s : Nat) (hs : s < 4) : f_X4_larderBy_L76 (k + 200) (n + 1) x (Int32.ofNat s) (A, B) = f_X4_larderBy_L76 (k + 200) n (x - mn (A 16 s) x) (Int32.ofNat s + (-1)) (kE A 16 s (A 16 s - mn (A 16 s) x), B) := by
  have hb := p_nbi (i := s) (n := 4) hs (by decide)
  rw [f_X4_larderBy_L76, if_neg (fun z => by have := (p_lt (b := 0) (by omega) (by omega)).mp z; omega)]
  simp only [p_tn (show s < 2147483648 by omega), if_neg hb, mn]
  by_cases h : A 16 s ≤ x
  · rw [if_pos h]
    by_cases h2 : A 16 s < x
    · rw [if_pos h2]; rfl
    · rw [if_neg h2, show A 16 s = x by grind]; rfl
  · rw [if_neg h, if_neg (show ¬ A 16 s < x by grind)]; rfl
theorem m_takes (k : Nat) (A : Nat → Nat → Int32) (B : Nat → Nat → Int64) (x : Int32) : ∃ q A2, f_X4_larderBy_L76 (k + 200) (k + 200) x 2 (A, B) = some (x - mn (A 16 2) x - mn (A 16 1) (x - mn (A 16 2) x) - mn (A 16 0) (x - mn (A 16 2) x - mn (A 16 1) (x - mn (A 16 2) x)), q, (A2, B)) ∧ A2 16 2 = A 16 2 - mn (A 16 2) x ∧ A2 16 1 = A 16 1 - mn (A 16 1) (x - mn (A 16 2) x) ∧ A2 16 0 = A 16 0 - mn (A 16 0) (x - mn (A 16 2) x - mn (A 16 1) (x - mn (A 16 2) x)) ∧ ∀ r, r ≠ 16 → A2 r = A r := by
  have h2 := m_take k (k + 199) A B x 2 (by decide)
  have h1 := m_take k (k + 198) (kE A 16 2 (A 16 2 - mn (A 16 2) x)) B (x - mn (A 16 2) x) 1 (by decide)
  have h0 := m_take k (k + 197) (kE (kE A 16 2 (A 16 2 - mn (A 16 2) x)) 16 1 (A 16 1 - mn (A 16 1) (x - mn (A 16 2) x))) B (x - mn (A 16 2) x - mn (A 16 1) (x - mn (A 16 2) x)) 0 (by decide)
  refine ⟨Int32.ofNat 0 + (-1), kE (kE (kE A 16 2 (A 16 2 - mn (A 16 2) x)) 16 1 (A 16 1 - mn (A 16 1) (x - mn (A 16 2) x))) 16 0 (A 16 0 - mn (A 16 0) (x - mn (A 16 2) x - mn (A 16 1) (x - mn (A 16 2) x))), h2.trans (h1.trans (h0.trans ?_)), rfl, rfl, rfl, fun r hr => ?_⟩
  · rw [f_X4_larderBy_L76, if_pos (by decide)]
    rfl
  · show (if r = 16 then _ else (if r = 16 then _ else (if r = 16 then _ else A r))) = _
    rw [if_neg hr, if_neg hr, if_neg hr]
theorem d30 : ∀ i : Fin 30, Int32.ofNat i.1 - Int32.ofNat i.1 / 7 * 7 = Int32.ofNat (i.1 % 7) := by decide +kernel
theorem l_lard (k n : Nat) (hn : n ≤ 30) (kk cc pp : Int32) (hk : 0 < kk) (S : ST) (A0 : Nat → Nat → Int32) (hp : A0 0 4 = S.1 0 3) (hr : ∀ i, i < 12 → S.1 32 i = A0 15 i) (B : Nat → Nat → Int64) : ∀ (m i j : Nat) (z o t c : Int32) (A : Nat → Nat → Int32), i + m = n → A 16 0 = z → A 16 1 = o → A 16 2 = t → (∀ r, r ≠ 16 → A r = A0 r) → ∃ v a1 a2 a3 q1 q2 A2, f_X3_larderCosts_L15 (Int32.ofNat n) kk cc pp S (k + 200) (m + 1 + j) z o t c (Int32.ofNat i) = some (a1, a2, a3, v, q1) ∧ f_X4_larderBy_L29 (Int32.ofNat n) kk cc pp (k + 200) (m + 1 + j) c (Int32.ofNat i) (A, B) = some (v, q2, (A2, B)) ∧ ∀ r, r ≠ 16 → A2 r = A0 r
  | 0, i, j, z, o, t, c, A, h1, e0, e1, e2, hA => by
    obtain rfl : i = n := by omega
    refine ⟨c, z, o, t, Int32.ofNat i, Int32.ofNat i, A, ?_, ?_, hA⟩
    · rw [show 0 + 1 + j = j + 1 by omega, f_X3_larderCosts_L15, if_pos (by grind)]
    · rw [show 0 + 1 + j = j + 1 by omega, f_X4_larderBy_L29, if_pos (by grind)]
  | m + 1, i, j, z, o, t, c, A, h1, e0, e1, e2, hA => by
    have hl : ¬ (Int32.ofNat n ≤ Int32.ofNat i) := fun zz => by have := (p_le (by omega) (by omega)).mp zz; omega
    have hk0 : ¬ kk ≤ 0 := by grind
    have hk1 : ¬ kk = 0 := by grind
    have hd := d30 ⟨i, by omega⟩
    have hm : i % 7 < 12 := by omega
    have hw : f_X3_at (S.1 32) 12 (Int32.ofNat (i % 7)) = A0 15 (i % 7) := by rw [p_at (by decide) hm, hr _ hm]
    have step : ∀ (z' c' : Int32) (A' : Nat → Nat → Int32), A' 16 0 = z' → A' 16 1 = o → A' 16 2 = t → (∀ r, r ≠ 16 → A' r = A0 r) →
      ∃ v a1 a2 a3 q1 q2 A2, f_X3_larderCosts_L15 (Int32.ofNat n) kk cc pp S (k + 200) (m + 1 + j) 0 (z' - mn z' (A0 15 (i % 7) - mn t (A0 15 (i % 7)) - mn o (A0 15 (i % 7) - mn t (A0 15 (i % 7))))) (o - mn o (A0 15 (i % 7) - mn t (A0 15 (i % 7)))) (c' + (9 * (A0 15 (i % 7) - mn t (A0 15 (i % 7)) - mn o (A0 15 (i % 7) - mn t (A0 15 (i % 7))) - mn z' (A0 15 (i % 7) - mn t (A0 15 (i % 7)) - mn o (A0 15 (i % 7) - mn t (A0 15 (i % 7))))) + S.1 0 3 * (t - mn t (A0 15 (i % 7))))) (Int32.ofNat i + 1) = some (a1, a2, a3, v, q1) ∧
      ((f_X4_larderBy_L76 (k + 200) (k + 200) (A0 15 (i % 7)) 2 (A', B)).bind fun v12 => (some ((c' + ((9 * v12.1) + ((v12.2.2.1 0 4) * ((v12.2.2.1 16) (Int32.toNatClampNeg 2))))) : Int32)).bind fun v13 => f_X4_larderBy_L29 (Int32.ofNat n) kk cc pp (k + 200) (m + 1 + j) v13 (Int32.ofNat i + 1) ((kS v12.2.2.1 16 (upd (upd (upd (v12.2.2.1 16) (Int32.toNatClampNeg 2) ((v12.2.2.1 16) (Int32.toNatClampNeg 1))) (Int32.toNatClampNeg 1) ((upd (v12.2.2.1 16) (Int32.toNatClampNeg 2) ((v12.2.2.1 16) (Int32.toNatClampNeg 1))) (Int32.toNatClampNeg 0))) (Int32.toNatClampNeg 0) 0)), v12.2.2.2)) = some (v, q2, (A2, B)) ∧ ∀ r, r ≠ 16 → A2 r = A0 r := by
      intro z' c' A' f0 f1 f2 hA'
      obtain ⟨q, A2, g1, g2, g3, g4, g5⟩ := m_takes k A' B (A0 15 (i % 7))
      rw [g1, p_bs, p_bs]
      dsimp only
      obtain ⟨v, a1, a2, a3, q1, q2, A3, b1, b2, b3⟩ := l_lard k n hn kk cc pp hk S A0 hp hr B m (i + 1) j 0 (A2 16 0) (A2 16 1) (c' + ((9 * (A0 15 (i % 7) - mn (A' 16 2) (A0 15 (i % 7)) - mn (A' 16 1) (A0 15 (i % 7) - mn (A' 16 2) (A0 15 (i % 7))) - mn (A' 16 0) (A0 15 (i % 7) - mn (A' 16 2) (A0 15 (i % 7)) - mn (A' 16 1) (A0 15 (i % 7) - mn (A' 16 2) (A0 15 (i % 7)))))) + ((A2 0 4) * ((A2 16) 2)))) (kS A2 16 (upd (upd (upd (A2 16) 2 ((A2 16) 1)) 1 ((upd (A2 16) 2 ((A2 16) 1)) 0)) 0 0)) (by omega) rfl rfl rfl (fun r hr2 => by
        show (if r = 16 then _ else A2 r) = _
        rw [if_neg hr2, g5 r hr2, hA' r hr2])
      rw [Int32.ofNat_add] at b1 b2
      refine ⟨v, a1, a2, a3, q1, q2, A3, ?_, b2, b3⟩
      rw [← b1, g2, g3, g4, f0, f1, f2, g5 0 (by decide), hA' 0 (by decide), hp]
      rfl
    have hmn : ∀ a b : Int32, (if a < b then a else b) = mn a b := fun a b => rfl
    rw [show m + 1 + 1 + j = (m + 1 + j) + 1 by omega, f_X3_larderCosts_L15, if_neg hl, if_neg hk0, if_neg hk1, f_X4_larderBy_L29, if_neg hl, if_neg hk1, hd, hw]
    have hb := p_nbi (i := i % 7) (n := 12) hm (by decide)
    have hA15 : A 15 = A0 15 := hA 15 (by decide)
    by_cases hday : Int32.ofNat i - Int32.ofNat i / kk * kk = 0
    · rw [if_pos hday, if_pos hday, p_tn (by omega), if_neg hb]
      simp only [p_bs, hmn]
      rw [hA15]
      have := step (z + cc) (c + cc * pp) (kS A 16 (upd (A 16) (Int32.toNatClampNeg 0) (A 16 (Int32.toNatClampNeg 0) + cc))) (by
        show A 16 0 + cc = _
        rw [e0]) e1 e2 (fun r hr2 => by
        show (if r = 16 then _ else A r) = _
        rw [if_neg hr2, hA r hr2])
      simp only [p_bs] at this
      exact this
    · rw [if_neg hday, if_neg hday, p_tn (by omega), if_neg hb]
      simp only [p_bs, hmn]
      rw [hA15]
      have := step z c A e0 e1 e2 hA
      simp only [p_bs] at this
      exact this
theorem both_lard {S M : ST} (R : Rel S M) (k : Nat) {n kk : Int32} (hn : 0 ≤ n ∧ n ≤ 30) (hk : 0 < kk) (cc pp : Int32) : ∃ v, f_X3_larderCosts S n kk cc pp (k + 200) = some v ∧ ∀ M2 : ST, mS M M2 → ∃ M3, f_X4_larderBy M2 n kk cc pp (k + 200) = some (v, M3) ∧ mS M M3 := by
  obtain ⟨d, hd, rfl⟩ := p_ix (n := 31) (by decide) hn.1 (show n < 31 by have := hn.2; grind)
  have key : ∀ (A : Nat → Nat → Int32) (B : Nat → Nat → Int64), (∀ r, r ≠ 16 → A r = M.1 r) → ∃ v, f_X3_larderCosts S (Int32.ofNat d) kk cc pp (k + 200) = some v ∧ ∃ M3, f_X4_larderBy (A, B) (Int32.ofNat d) kk cc pp (k + 200) = some (v, M3) ∧ mS M M3 := by
    intro A B hA
    have z4 : ∃ A1, f_X4_larderBy_L3 (k + 200) (k + 200) 0 (A, B) = some (4, (A1, B)) ∧ A1 16 0 = 0 ∧ A1 16 1 = 0 ∧ A1 16 2 = 0 ∧ ∀ r, r ≠ 16 → A1 r = A r := by
      refine ⟨kE (kE (kE (kE A 16 0 0) 16 1 0) 16 2 0) 16 3 0, ?_, rfl, rfl, rfl, fun r hr => ?_⟩
      · have e : ∀ (A : Nat → Nat → Int32) (j : Nat), kS A 16 (upd (A 16) j 0) = kE A 16 j 0 := fun A j => rfl
        simp [f_X4_larderBy_L3, e]
      · show (if r = 16 then _ else (if r = 16 then _ else (if r = 16 then _ else (if r = 16 then _ else A r)))) = _
        rw [if_neg hr, if_neg hr, if_neg hr, if_neg hr]
    obtain ⟨A1, y0, y1, y2, y3, y4⟩ := z4
    obtain ⟨v, a1, a2, a3, q1, q2, A2, b1, b2, b3⟩ := l_lard k d (by omega) kk cc pp hk S M.1 R.k.1.2.2.2.1.symm (fun i hi => (R.2.2.2.2.1.2.2 i hi).1) B d 0 (k + 199 - d) 0 0 0 0 A1 (by omega) y1 y2 y3 (fun r hr => by rw [y4 r hr, hA r hr])
    rw [show d + 1 + (k + 199 - d) = k + 200 by omega] at b1 b2
    have b1' : f_X3_larderCosts_L15 (Int32.ofNat d) kk cc pp S (k + 200) (k + 200) 0 0 0 0 0 = _ := b1
    have b2' : f_X4_larderBy_L29 (Int32.ofNat d) kk cc pp (k + 200) (k + 200) 0 0 (A1, B) = _ := b2
    refine ⟨v, ?_, (A2, B), ?_, b3⟩
    · unfold f_X3_larderCosts
      rw [b1', p_bs]
    · unfold f_X4_larderBy
      rw [y0, p_bs, b2', p_bs]
  obtain ⟨v, h1, -⟩ := key M.1 M.2 (fun _ _ => rfl)
  refine ⟨v, h1, fun M2 h2 => ?_⟩
  obtain ⟨v2, h3, M3, h4, h5⟩ := key M2.1 M2.2 h2
  rw [h1] at h3
  cases h3
  exact ⟨M3, h4, h5⟩
theorem o_larder {S M : ST} (R : Rel S M) (k : Nat) (n kk cc pp : Int32) : O2 (f_X3_larder S n kk cc pp (k + 200)) (f_X4_larder M n kk cc pp (k + 200)) := by
  unfold f_X3_larder f_X4_larder
  have low := ref_no R (Or.inr (Or.inr (Or.inr (Or.inl rfl)))) k (r := -4)
  have high := ref_no R (Or.inr (Or.inr (Or.inr (Or.inr rfl)))) k (r := -6)
  by_cases h1 : n < 1
  · rw [if_pos h1, if_pos h1]; exact low
  rw [if_neg h1, if_neg h1]
  by_cases h2 : kk < 1
  · rw [if_pos h2, if_pos h2]; exact low
  rw [if_neg h2, if_neg h2]
  by_cases h3 : cc < 1
  · rw [if_pos h3, if_pos h3]; exact low
  rw [if_neg h3, if_neg h3]
  by_cases h4 : 0 ≤ pp
  · rw [if_pos h4, if_pos h4]
    by_cases h5 : 30 < n
    · rw [if_pos h5, if_pos h5]; exact high
    rw [if_neg h5, if_neg h5]
    by_cases h6 : 7 < kk
    · rw [if_pos h6, if_pos h6]; exact high
    rw [if_neg h6, if_neg h6]
    by_cases h7 : 9 < cc
    · rw [if_pos h7, if_pos h7]; exact high
    rw [if_neg h7, if_neg h7]
    by_cases h8 : pp ≤ 9
    · rw [if_pos h8, if_pos h8, show M.1 0 11 = S.1 30 2 from R.2.2.2.2.1.1.symm]
      by_cases h9 : S.1 30 2 = 7
      · rw [if_pos h9, if_pos h9]
        obtain ⟨v, a1, a2⟩ := both_lard R k (n := n) (kk := kk) (by constructor <;> grind) (by grind) cc pp
        obtain ⟨M3, a3, a4⟩ := a2 M mS.rfl'
        rw [a1, p_bs, a3, p_bs]
        exact ⟨v, S, M3, rfl, rfl, R.frame cS.rfl' a4⟩
      · rw [if_neg h9, if_neg h9]
        exact ref_no R (Or.inr (Or.inr (Or.inl rfl))) k
    · rw [if_neg h8, if_neg h8]; exact high
  · rw [if_neg h4, if_neg h4]; exact low
