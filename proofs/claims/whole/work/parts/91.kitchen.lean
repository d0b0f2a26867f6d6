/-! kitchen() -/
theorem Rel.lclear {S M : ST} (R : Rel S M) : Rel (kS S.1 30 (upd (S.1 30) 1 0), S.2) (kS M.1 0 (upd (M.1 0) 5 0), M.2) := by
  obtain ⟨-, -, -, g4, g5, -⟩ := id R
  refine R.rest ?_ rfl ?_ ?_ ?_ g5
  · intro r hr
    show (if r = 30 then _ else S.1 r) = _
    rw [if_neg (by omega)]
  · intro r h1 _ _
    show (if r = 0 then _ else M.1 r) = _
    rw [if_neg h1]
  · intro i h1 _
    show (if i = 5 then _ else M.1 0 i) = _
    rw [if_neg h1]
  · exact ⟨rfl, ⟨show (0 : Int32) ≤ 0 by decide, show (0 : Int32) ≤ 96 by decide⟩, g4.2.2⟩
theorem Rel.kend {S M S2 M2 : ST} (R : Rel S M) (h1 : RKt S2.1 (mK M2.1)) (h2 : GK S2.1) (hs : ∀ r, 20 ≤ r → S2.1 r = kS S.1 30 (upd (S.1 30) 1 0) r) (hm : M2.1 1 = M.1 1 ∧ M2.1 10 = M.1 10 ∧ (∀ i, i < 60 → M2.1 14 i = M.1 14 i) ∧ M2.1 15 = M.1 15 ∧ M2.1 0 5 = 0 ∧ M2.1 0 8 = M.1 0 8 ∧ M2.1 0 11 = M.1 0 11) : Rel S2 M2 := by
  obtain ⟨m1, m2, m3, m4, m5, m6, m7⟩ := hm
  exact R.lclear.now h1 h2 (fun r h _ _ => hs r h) ⟨m1, m2, m3, m4, m5, m6, m7⟩
theorem rst0 (M : Nat → Nat → Int32) : kS M 0 (upd (upd (M 0) 6 0) 7 0) = rst (kE M 0 7 0) 0 := by
  funext r i
  unfold rst
  rw [kE_at, kE_at]
  show (if r = 0 then (fun i => if i = 7 then (0 : Int32) else (if i = 6 then (0 : Int32) else M 0 i)) else M r) i = _
  by_cases h : r = 0
  · subst h
    show (if i = 7 then (0 : Int32) else (if i = 6 then (0 : Int32) else M 0 i)) = _
    by_cases h2 : i = 7
    · subst h2
      rw [if_neg (show ¬ (0 = 0 ∧ 7 = 6) by decide), if_pos (show 0 = 0 ∧ 7 = 7 by decide), if_pos (show 7 = 7 from rfl)]
    · by_cases h3 : i = 6
      · subst h3
        rw [if_pos (show 0 = 0 ∧ 6 = 6 by decide), if_neg (show ¬ 6 = 7 by decide), if_pos (show 6 = 6 from rfl)]
        rfl
      · rw [if_neg h2, if_neg h3, if_neg (fun z => h3 z.2), if_neg (fun z => h2 z.2)]
  · rw [if_neg h, if_neg (by omega), if_neg (by omega)]
/-- what the reading leaves on the reference's side -/
def mR (M A : Nat → Nat → Int32) : Prop := (∀ r, r ≠ 0 → r ≠ 11 → r ≠ 12 → r ≠ 13 → A r = M r) ∧ ∀ z, z ≠ 5 → z ≠ 6 → z ≠ 7 → A 0 z = M 0 z
theorem mR.mk {M A : Nat → Nat → Int32} (h : mR M A) : ∀ r i, r < 9 → i < 8 → (r = 0 → i < 5) → mK A r i = mK M r i := mK_same (fun z hz => h.2 z (by omega) (by omega) (by omega)) (fun r h1 h2 => h.1 r (by omega) (by omega) (by omega) (by omega))
theorem o_kbad {S M : ST} (R : Rel S M) (r : Int32) (y : Nat → Nat → Nat) {A : Nat → Nat → Int32} (h : mR M.1 A) : O2y (some (r, y, (kS S.1 30 (upd (S.1 30) 1 0)), S.2)) (some (r, (kS A 0 (upd (A 0) 5 0), M.2))) := by
  refine ⟨r, y, _, _, rfl, rfl, R.kend (R.k.congrP (fun r i h1 _ _ => ?_) (fun r i h1 h2 h3 => ?_)) (R.g.congrP (fun r i h1 _ _ => ?_)) (fun r _ => rfl) ⟨?_, ?_, fun i hi => ?_, ?_, ?_, ?_, ?_⟩⟩
  · show (if r = 30 then _ else S.1 r) i = _
    rw [if_neg (by omega)]
  · rw [← h.mk r i h1 h2 h3]
    refine mK_same (A := A) (A2 := kE A 0 5 0) (fun z hz => ?_) (fun r h4 h5 => ?_) r i h1 h2 h3
    · rw [kE_at, if_neg (by omega)]
    · show (if r = 0 then _ else A r) = _
      rw [if_neg (by omega)]
  · show (if r = 30 then _ else S.1 r) i = _
    rw [if_neg (by omega)]
  · exact h.1 1 (by decide) (by decide) (by decide) (by decide)
  · exact h.1 10 (by decide) (by decide) (by decide) (by decide)
  · exact congrFun (h.1 14 (by decide) (by decide) (by decide) (by decide)) i
  · exact h.1 15 (by decide) (by decide) (by decide) (by decide)
  · rfl
  · exact h.2 8 (by decide) (by decide) (by decide)
  · exact h.2 11 (by decide) (by decide) (by decide)
theorem o_kgood {S M : ST} (R : Rel S M) (k n s2 : Nat) (y : Nat → Nat → Nat) {A : Nat → Nat → Int32} (h : mR M.1 A) (hn : n ≤ 96) (hs : s2 ≤ 32) (el : ∀ z, z < 96 → S.1 31 z = A 10 z) (e7 : A 0 7 = Int32.ofNat s2) (en : ps (A 10) s2 = n) (hr : ∀ t, t < s2 → rec1 A n t) :
    O2y ((f_X1_copyFrom (kR (kS S.1 30 (upd (S.1 30) 1 0)) 1) (kR (kS S.1 30 (upd (S.1 30) 1 0)) 0) (k + 200)).bind fun v2 =>
      (f_X3_kitchen_L42 (Int32.ofNat n) (k + 200) (k + 200) 0 0 y ((kP (kS S.1 30 (upd (S.1 30) 1 0)) 1 v2), S.2)).bind fun v9 =>
        match v9 with
        | .inl r => some r
        | .inr v10 =>
          (f_X1_copyFrom (kR v10.2.2.2.1 0) (kR v10.2.2.2.1 1) (k + 200)).bind fun v11 =>
          some (v10.1, v10.2.2.1, ((kP v10.2.2.2.1 0 v11), v10.2.2.2.2)))
    ((f_X4_passesAll ((kS A 0 (upd (A 0) 5 0)), M.2) 1 true (k + 200)).bind fun v8 =>
      (f_X4_kitchen_L86 (k + 200) (k + 200) 0 v8).bind fun v15 =>
        match v15 with
        | .inl r => some r
        | .inr v16 => some ((v16.2.1 0 7), v16.2)) := by
  have hx : ∀ r, r ≠ 30 → kS S.1 30 (upd (S.1 30) 1 0) r = S.1 r := fun r h => by
    show (if r = 30 then _ else S.1 r) = _
    rw [if_neg h]
  have hx0 : kR (kS S.1 30 (upd (S.1 30) 1 0)) 0 0 0 = S.1 0 0 := rfl
  obtain ⟨Kr, a1, a2, a3⟩ := c_copy k (kR (kS S.1 30 (upd (S.1 30) 1 0)) 1) (kR (kS S.1 30 (upd (S.1 30) 1 0)) 0) (by rw [hx0]; exact R.g.1.1)
  obtain ⟨A3, b1, b2, b3, b4, b5⟩ := pall_k k 60 (by decide) (kE A 0 5 0) M.2 1 rfl
  have b1' : f_X4_passesAll (kS A 0 (upd (A 0) 5 0), M.2) 1 true (k + 200) = some (A3, M.2) := b1
  rw [a1, p_bs, b1', p_bs]
  generalize hSx : kS S.1 30 (upd (S.1 30) 1 0) = X at *
  have c := a2.kr (L := mK M.1) (R.k.congrP (fun r i h1 _ _ => by
    show X (10 * 0 + r) i = _
    rw [hx _ (by omega)]
    rw [show 10 * 0 + r = r by omega]) (fun _ _ _ _ _ => rfl)) (R.g.congrP (fun r i h1 _ _ => by
    show X (10 * 0 + r) i = _
    rw [hx _ (by omega)]
    rw [show 10 * 0 + r = r by omega]))
  have f0 : ∀ z, z ≠ 5 → z ≠ 9 → z ≠ 10 → A3 0 z = A 0 z := fun z h1 h2 h3 => by rw [b2 z h2 h3, kE_at, if_neg (by omega)]
  have fr : ∀ r, r ≠ 0 → r ≠ 14 → A3 r = A r := fun r h1 h2 => by
    rw [b3 r h1 h2]
    show (if r = 0 then _ else A r) = _
    rw [if_neg h1]
  have emk : ∀ r i, r < 9 → i < 8 → (r = 0 → i < 5) → mK A3 r i = mK M.1 r i := fun r i h1 h2 h3 => (mK_same (A := A) (A2 := A3) (fun z hz => f0 z (by omega) (by omega) (by omega)) (fun r h4 h5 => fr r (by omega) (by omega)) r i h1 h2 h3).trans (h.mk r i h1 h2 h3)
  have ekk : ∀ r i, dm r i → kK A3 60 r i = mK M.1 r i := fun r i hd => by
    rw [b5 r i hd, ← h.mk r i (dm9 hd).1 (dm9 hd).2.1 (dm9 hd).2.2]
    exact mK_same (A := A) (A2 := kE A 0 5 0) (fun z hz => by rw [kE_at, if_neg (by omega)]) (fun r h1 h2 => by
      show (if r = 0 then _ else A r) = _
      rw [if_neg (by omega)]) r i (dm9 hd).1 (dm9 hd).2.1 (dm9 hd).2.2
  have R1 : KR (kR (kP X 1 Kr) 1) A3 := (show KR Kr M.1 from c).c1 (kR1_kP X Kr) emk
  have p31 : kP X 1 Kr 31 = S.1 31 := (kP1_o X Kr 31 (by omega)).trans (hx 31 (by decide))
  have L := kloop k n s2 hn hs (kP X 1 Kr, S.2) A3 M.2 (fun z hz => by
    show kP X 1 Kr 31 z = _
    rw [p31, fr 10 (by decide) (by decide)]
    exact el z hz) (by rw [f0 7 (by decide) (by decide) (by decide)]; exact e7) (fun u hu => by
    have := hr u hu
    unfold rec1 at this ⊢
    rw [fr 10 (by decide) (by decide), fr 11 (by decide) (by decide), fr 12 (by decide) (by decide), fr 13 (by decide) (by decide)]
    exact this) (by rw [fr 10 (by decide) (by decide)]; exact en) s2 0 (k + 199 - s2) y (kP X 1 Kr, S.2) A3 (by omega) R1 (fun _ _ => rfl) ⟨fun _ _ => rfl, fun _ _ => rfl⟩
  rw [show s2 + 1 + (k + 199 - s2) = k + 200 by omega] at L
  have hX20 : ∀ S' : ST, cF S' (kP X 1 Kr, S.2) → ∀ r, ¬ (10 ≤ r ∧ r < 20) → S'.1 r = X r := fun S' hc r hr => (hc r hr).trans (kP1_o X Kr r hr)
  rcases L with ⟨r, y', S', A', l1, l2, l3, l4, l5, l6⟩ | ⟨x4, q, y', S', A', l1, l2, l3, l4, l5⟩
  · have l1' : f_X3_kitchen_L42 (Int32.ofNat n) (k + 200) (k + 200) 0 0 y (kP X 1 Kr, S.2) = _ := l1
    have l2' : f_X4_kitchen_L86 (k + 200) (k + 200) 0 (A3, M.2) = _ := l2
    rw [l1', p_bs, l2', p_bs]
    have e : ∀ r i, r < 9 → i < 8 → (r = 0 → i < 5) → S'.1 r i = S.1 r i := fun r i h1 _ _ => by rw [hX20 S' l3 r (by omega), hx r (by omega)]
    refine ⟨r, y', S', (A', M.2), rfl, rfl, R.kend ?_ (R.g.congrP e) (fun r hr => by rw [hX20 S' l3 r (by omega), hSx]) ⟨?_, ?_, fun i hi => ?_, ?_, ?_, ?_, ?_⟩⟩
    · exact (R.k.congrP e (fun _ _ _ _ _ => rfl)).congrD (fun _ _ _ => rfl) (fun r i hd => (l4 r i hd).trans (ekk r i hd))
    · exact (l5 1 (by decide) (by omega)).trans ((fr 1 (by decide) (by decide)).trans (h.1 1 (by decide) (by decide) (by decide) (by decide)))
    · exact (l5 10 (by decide) (by omega)).trans ((fr 10 (by decide) (by decide)).trans (h.1 10 (by decide) (by decide) (by decide) (by decide)))
    · show A' 14 i = _
      rw [l5 14 (by decide) (by omega), b4 i (by omega)]
      exact congrFun (h.1 14 (by decide) (by decide) (by decide) (by decide)) i
    · exact (l5 15 (by decide) (by omega)).trans ((fr 15 (by decide) (by decide)).trans (h.1 15 (by decide) (by decide) (by decide) (by decide)))
    · exact (l6 5 (by decide) (by decide) (by decide)).trans ((b2 5 (by decide) (by decide)).trans (by rw [kE_at, if_pos ⟨rfl, rfl⟩]))
    · exact (l6 8 (by decide) (by decide) (by decide)).trans ((f0 8 (by decide) (by decide) (by decide)).trans (h.2 8 (by decide) (by decide) (by decide)))
    · exact (l6 11 (by decide) (by decide) (by decide)).trans ((f0 11 (by decide) (by decide) (by decide)).trans (h.2 11 (by decide) (by decide) (by decide)))
  · have l1' : f_X3_kitchen_L42 (Int32.ofNat n) (k + 200) (k + 200) 0 0 y (kP X 1 Kr, S.2) = _ := l1
    have l2' : f_X4_kitchen_L86 (k + 200) (k + 200) 0 (A3, M.2) = _ := l2
    rw [l1', p_bs, l2', p_bs]
    dsimp only
    obtain ⟨Kr2, d1, d2, d3⟩ := c_copy k (kR S'.1 0) (kR S'.1 1) l3.2.1.1
    rw [d1, p_bs]
    have c2 := d2.kr l3.1 l3.2
    have d3' : ∀ r, 9 ≤ r → Kr2 r = S'.1 r := fun r hr => (d3 r hr).trans (by rw [kR0])
    have k0 : ∀ r, r < 10 → kP S'.1 0 Kr2 r = Kr2 r := fun r hr => by
      unfold kP
      rw [if_pos (by omega), show r - 10 * 0 = r by omega]
    have k1 : ∀ r, 10 ≤ r → kP S'.1 0 Kr2 r = S'.1 r := fun r hr => by
      unfold kP
      rw [if_neg (by omega)]
    refine ⟨Int32.ofNat s2, y', _, (A', M.2), rfl, ?_, R.kend ?_ ?_ (fun r hr => ?_) ⟨?_, ?_, fun i hi => ?_, ?_, ?_, ?_, ?_⟩⟩
    · show some (A' 0 7, _) = _
      rw [l5.2 7 (by decide), f0 7 (by decide) (by decide) (by decide), e7]
    · exact c2.1.congrP (fun r i h1 _ _ => by
        show kP S'.1 0 Kr2 r i = _
        rw [k0 r (by omega)]) (fun _ _ _ _ _ => rfl)
    · exact c2.2.congrP (fun r i h1 _ _ => by
        show kP S'.1 0 Kr2 r i = _
        rw [k0 r (by omega)])
    · show kP S'.1 0 Kr2 r = _
      rw [k1 r (by omega), hX20 S' l4 r (by omega), hSx]
    · exact (l5.1 1 (by omega)).trans ((fr 1 (by decide) (by decide)).trans (h.1 1 (by decide) (by decide) (by decide) (by decide)))
    · exact (l5.1 10 (by omega)).trans ((fr 10 (by decide) (by decide)).trans (h.1 10 (by decide) (by decide) (by decide) (by decide)))
    · show A' 14 i = _
      rw [l5.1 14 (by omega), b4 i (by omega)]
      exact congrFun (h.1 14 (by decide) (by decide) (by decide) (by decide)) i
    · exact (l5.1 15 (by omega)).trans ((fr 15 (by decide) (by decide)).trans (h.1 15 (by decide) (by decide) (by decide) (by decide)))
    · exact (l5.2 5 (by decide)).trans ((b2 5 (by decide) (by decide)).trans (by rw [kE_at, if_pos ⟨rfl, rfl⟩]))
    · exact (l5.2 8 (by decide)).trans ((f0 8 (by decide) (by decide) (by decide)).trans (h.2 8 (by decide) (by decide) (by decide)))
    · exact (l5.2 11 (by decide)).trans ((f0 11 (by decide) (by decide) (by decide)).trans (h.2 11 (by decide) (by decide) (by decide)))
