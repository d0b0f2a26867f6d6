/-! the image -/
def dm (r i : Nat) : Prop := (r = 0 ∧ i < 5) ∨ ((r = 1 ∨ r = 2) ∧ i < 8) ∨ ((r = 3 ∨ r = 4) ∧ i < 4) ∨ ((5 ≤ r ∧ r ≤ 8) ∧ i < 5)
theorem RKt.congrD {K L K2 L2 : Nat → Nat → Int32} (h : RKt K L) (e : ∀ r i, dm r i → K2 r i = K r i) (f : ∀ r i, dm r i → L2 r i = L r i) : RKt K2 L2 := by
  obtain ⟨h1, h2, h3, h4⟩ := h
  have d0 : ∀ i, i < 5 → dm 0 i := fun i hi => Or.inl ⟨rfl, hi⟩
  have d12 : ∀ r i, (r = 1 ∨ r = 2) → i < 8 → dm r i := fun r i hr hi => Or.inr (Or.inl ⟨hr, hi⟩)
  have d34 : ∀ r i, (r = 3 ∨ r = 4) → i < 4 → dm r i := fun r i hr hi => Or.inr (Or.inr (Or.inl ⟨hr, hi⟩))
  have d58 : ∀ r i, (5 ≤ r ∧ r ≤ 8) → i < 5 → dm r i := fun r i hr hi => Or.inr (Or.inr (Or.inr ⟨hr, hi⟩))
  refine ⟨?_, fun i hi => ?_, fun i hi => ?_, fun i hi hj => ?_⟩
  · rw [e 0 0 (d0 0 (by decide)), e 0 1 (d0 1 (by decide)), e 0 2 (d0 2 (by decide)), e 0 3 (d0 3 (by decide)), e 0 4 (d0 4 (by decide)), f 0 0 (d0 0 (by decide)), f 0 1 (d0 1 (by decide)), f 0 2 (d0 2 (by decide)), f 0 3 (d0 3 (by decide)), f 0 4 (d0 4 (by decide))]
    exact h1
  · rw [e 1 i (d12 1 i (by decide) hi), e 2 i (d12 2 i (by decide) hi), f 1 i (d12 1 i (by decide) hi), f 2 i (d12 2 i (by decide) hi)]
    exact h2 i hi
  · rw [e 3 i (d34 3 i (by decide) hi), e 4 i (d34 4 i (by decide) hi), f 3 i (d34 3 i (by decide) hi), f 4 i (d34 4 i (by decide) hi)]
    exact h3 i hi
  · rw [e 5 i (d58 5 i (by decide) hi), e 6 i (d58 6 i (by decide) hi), e 7 i (d58 7 i (by decide) hi), e 8 i (d58 8 i (by decide) hi), f 5 i (d58 5 i (by decide) hi), f 6 i (d58 6 i (by decide) hi), f 7 i (d58 7 i (by decide) hi), f 8 i (d58 8 i (by decide) hi)]
    exact h4 i hi (by rw [e 0 0 (d0 0 (by decide))] at hj; exact hj)
theorem pok (k c : Nat) (hc : c < 120) (A : Nat → Nat → Int32) (B : Nat → Nat → Int64) (e9 : A 0 9 = 1) (e10 : A 0 10 = Int32.ofNat c) (v : Int32) : f_X4_passOne (A, B) v (k + 200) = some (v, (kE (kE A 0 10 (Int32.ofNat (c + 1))) 14 c v, B)) := by
  have hb : ¬ (A 0 10 < 0 ∨ 120 ≤ Int32.toNatClampNeg (A 0 10)) := by rw [e10, p_tn (by omega)]; exact p_nbi hc (by decide)
  unfold f_X4_passOne
  dsimp only
  rw [if_neg (show ¬ A 0 9 = 0 by rw [e9]; decide), if_neg hb, e10, p_tn (by omega), ← p_succ]
  rfl
theorem por (k c : Nat) (hc : c < 120) (A : Nat → Nat → Int32) (B : Nat → Nat → Int64) (e9 : A 0 9 = 0) (e10 : A 0 10 = Int32.ofNat c) (v : Int32) : f_X4_passOne (A, B) v (k + 200) = some (A 14 c, (kE A 0 10 (Int32.ofNat (c + 1)), B)) := by
  have hb : ¬ (A 0 10 < 0 ∨ 120 ≤ Int32.toNatClampNeg (A 0 10)) := by rw [e10, p_tn (by omega)]; exact p_nbi hc (by decide)
  unfold f_X4_passOne
  dsimp only
  rw [if_pos e9, if_neg hb, e10, p_tn (by omega), ← p_succ]
  rfl
/-- one number of row 0 is kept -/
def kp1 (A : Nat → Nat → Int32) (c i : Nat) : Nat → Nat → Int32 := kE (kE (kE A 0 10 (Int32.ofNat (c + 1))) 14 c (A 0 i)) 0 i (A 0 i)
theorem kp1_0 (A : Nat → Nat → Int32) (c i z : Nat) (hi : i < 5) (hz : z ≠ 10) : kp1 A c i 0 z = A 0 z := by
  unfold kp1
  rw [kE_at]
  by_cases h : z = i
  · rw [if_pos ⟨rfl, h⟩, h]
  · rw [if_neg (fun t => h t.2), kE_at, if_neg (by omega), kE_at, if_neg (by omega)]
theorem kp1_10 (A : Nat → Nat → Int32) (c i : Nat) (hi : i < 5) : kp1 A c i 0 10 = Int32.ofNat (c + 1) := by
  unfold kp1
  rw [kE_at, if_neg (by omega), kE_at, if_neg (by omega), kE_at, if_pos ⟨rfl, rfl⟩]
theorem kp1_14 (A : Nat → Nat → Int32) (c i z : Nat) : kp1 A c i 14 z = if z = c then A 0 i else A 14 z := by
  unfold kp1
  rw [kE_at, if_neg (by omega), kE_at]
  by_cases h : z = c
  · rw [if_pos ⟨rfl, h⟩, if_pos h]
  · rw [if_neg (fun t => h t.2), if_neg h, kE_at, if_neg (by omega)]
theorem kp1_r (A : Nat → Nat → Int32) (c i r : Nat) (h0 : r ≠ 0) (h14 : r ≠ 14) : kp1 A c i r = A r := by
  show (if r = 0 then _ else (if r = 14 then _ else (if r = 0 then _ else A r))) = _
  rw [if_neg h0, if_neg h14, if_neg h0]
/-- one number of row 0 is put back -/
def rpo1 (A : Nat → Nat → Int32) (c i : Nat) : Nat → Nat → Int32 := kE (kE A 0 10 (Int32.ofNat (c + 1))) 0 i (A 14 c)
theorem rpo1_0 (A : Nat → Nat → Int32) (c i z : Nat) (hi : i < 5) (hz : z ≠ 10) : rpo1 A c i 0 z = if z = i then A 14 c else A 0 z := by
  unfold rpo1
  rw [kE_at]
  by_cases h : z = i
  · rw [if_pos ⟨rfl, h⟩, if_pos h]
  · rw [if_neg (fun t => h t.2), if_neg h, kE_at, if_neg (by omega)]
theorem rpo1_10 (A : Nat → Nat → Int32) (c i : Nat) (hi : i < 5) : rpo1 A c i 0 10 = Int32.ofNat (c + 1) := by
  unfold rpo1
  rw [kE_at, if_neg (by omega), kE_at, if_pos ⟨rfl, rfl⟩]
theorem rpo1_r (A : Nat → Nat → Int32) (c i r : Nat) (h0 : r ≠ 0) : rpo1 A c i r = A r := by
  show (if r = 0 then _ else (if r = 0 then _ else A r)) = _
  rw [if_neg h0, if_neg h0]
theorem pall_k (k : Nat) (o : Nat) (ho : o ≤ 60) (A : Nat → Nat → Int32) (B : Nat → Nat → Int64) (p : Int32) (hp : 60 * p = Int32.ofNat o) : ∃ A2, f_X4_passesAll (A, B) p true (k + 200) = some (A2, B) ∧ (∀ z, z ≠ 9 → z ≠ 10 → A2 0 z = A 0 z) ∧ (∀ r, r ≠ 0 → r ≠ 14 → A2 r = A r) ∧ (∀ z, ¬ (o ≤ z ∧ z < o + 49) → A2 14 z = A 14 z) ∧ ∀ r i, dm r i → kK A2 o r i = mK A r i := by
  have s9 : kS A 0 (upd (upd (A 0) 9 (b2i true)) 10 (60 * p)) 0 9 = 1 := rfl
  have s10 : kS A 0 (upd (upd (A 0) 9 (b2i true)) 10 (60 * p)) 0 10 = Int32.ofNat o := hp
  have s0 : ∀ z, z ≠ 9 → z ≠ 10 → kS A 0 (upd (upd (A 0) 9 (b2i true)) 10 (60 * p)) 0 z = A 0 z := fun z h1 h2 => by
    show (if z = 10 then _ else (if z = 9 then _ else A 0 z)) = _
    rw [if_neg h2, if_neg h1]
  have sr : ∀ r, r ≠ 0 → kS A 0 (upd (upd (A 0) 9 (b2i true)) 10 (60 * p)) r = A r := fun r hr => by
    show (if r = 0 then _ else A r) = _
    rw [if_neg hr]
  have hdef : f_X4_passesAll (A, B) p true (k + 200) = f_X4_passesAll (A, B) p true (k + 200) := rfl
  conv at hdef => rhs; unfold f_X4_passesAll
  rw [hdef]
  clear hdef
  dsimp only
  generalize kS A 0 (upd (upd (A 0) 9 (b2i true)) 10 (60 * p)) = X0 at s9 s10 s0 sr ⊢
  obtain ⟨X1, g0, h0, c0, z0, r0⟩ := pk0 k o (by omega) X0 B s9 s10
  have n0 : X1 0 9 = 1 := (z0 9 (by decide)).trans s9
  obtain ⟨X2, g1, h1, c1, z1, r1⟩ := pk1 k (o + 5) (by omega) X1 B n0 c0
  have n1 : X2 0 9 = 1 := (z1 9 (by decide)).trans n0
  obtain ⟨X3, g2, h2, c2, z2, r2⟩ := pk2 k (o + 10) (by omega) X2 B n1 c1
  have n2 : X3 0 9 = 1 := (z2 9 (by decide)).trans n1
  obtain ⟨X4, g3, h3, c3, z3, r3⟩ := pk3 k (o + 15) (by omega) X3 B n2 c2
  have n3 : X4 0 9 = 1 := (z3 9 (by decide)).trans n2
  obtain ⟨X5, g4, h4, c4, z4, r4⟩ := pk4 k (o + 20) (by omega) X4 B n3 c3
  have n4 : X5 0 9 = 1 := (z4 9 (by decide)).trans n3
  obtain ⟨X6, g5, h5, c5, z5, r5⟩ := pk5 k (o + 24) (by omega) X5 B n4 c4
  have n5 : X6 0 9 = 1 := (z5 9 (by decide)).trans n4
  obtain ⟨X7, g6, h6, c6, z6, r6⟩ := pk6 k (o + 32) (by omega) X6 B n5 c5
  have n6 : X7 0 9 = 1 := (z6 9 (by decide)).trans n5
  obtain ⟨X8, g7, h7, c7, z7, r7⟩ := pk7 k (o + 40) (by omega) X7 B n6 c6
  have n7 : X8 0 9 = 1 := (z7 9 (by decide)).trans n6
  rw [g0, p_bs, g1, p_bs, g2, p_bs, g3, p_bs, g4, p_bs, g5, p_bs, g6, p_bs, g7, p_bs]
  have q0 := pok k (o + 44) (by omega) X8 B n7 c7 (X8 0 0)
  have y9_0 : (kp1 X8 (o + 44) 0) 0 9 = 1 := by rw [kp1_0 _ _ _ _ (by decide) (by decide)]; exact n7
  have y10_0 : (kp1 X8 (o + 44) 0) 0 10 = Int32.ofNat ((o + 44) + 1) := kp1_10 _ _ _ (by decide)
  have w0_0 : ∀ z, z ≠ 10 → (kp1 X8 (o + 44) 0) 0 z = X8 0 z := fun z hz => kp1_0 _ _ _ z (by decide) hz
  have w14_0 : ∀ z, (kp1 X8 (o + 44) 0) 14 z = if z = (o + 44) then X8 0 0 else X8 14 z := fun z => kp1_14 _ _ _ z
  have wr_0 : ∀ r, r ≠ 0 → r ≠ 14 → (kp1 X8 (o + 44) 0) r = X8 r := fun r h1 h2 => kp1_r _ _ _ r h1 h2
  rw [q0, p_bs]
  have u0 : kS (kE (kE X8 0 10 (Int32.ofNat ((o + 44) + 1))) 14 (o + 44) (X8 0 0)) 0 (upd (kE (kE X8 0 10 (Int32.ofNat ((o + 44) + 1))) 14 (o + 44) (X8 0 0) 0) 0 (X8 0 0)) = (kp1 X8 (o + 44) 0) := rfl
  have v0 : kE (kE X8 0 10 (Int32.ofNat ((o + 44) + 1))) 14 (o + 44) (X8 0 0) 0 1 = (kp1 X8 (o + 44) 0) 0 1 := by rw [w0_0 1 (by decide), kE_at, if_neg (by omega), kE_at, if_neg (by omega)]
  dsimp only
  rw [u0, v0]
  clear u0 v0 q0
  generalize (kp1 X8 (o + 44) 0) = Y0 at y9_0 y10_0 w0_0 wr_0 w14_0 ⊢
  have q1 := pok k (o + 45) (by omega) Y0 B y9_0 y10_0 (Y0 0 1)
  have y9_1 : (kp1 Y0 (o + 45) 1) 0 9 = 1 := by rw [kp1_0 _ _ _ _ (by decide) (by decide)]; exact y9_0
  have y10_1 : (kp1 Y0 (o + 45) 1) 0 10 = Int32.ofNat ((o + 45) + 1) := kp1_10 _ _ _ (by decide)
  have w0_1 : ∀ z, z ≠ 10 → (kp1 Y0 (o + 45) 1) 0 z = Y0 0 z := fun z hz => kp1_0 _ _ _ z (by decide) hz
  have w14_1 : ∀ z, (kp1 Y0 (o + 45) 1) 14 z = if z = (o + 45) then Y0 0 1 else Y0 14 z := fun z => kp1_14 _ _ _ z
  have wr_1 : ∀ r, r ≠ 0 → r ≠ 14 → (kp1 Y0 (o + 45) 1) r = Y0 r := fun r h1 h2 => kp1_r _ _ _ r h1 h2
  rw [q1, p_bs]
  have u1 : kS (kE (kE Y0 0 10 (Int32.ofNat ((o + 45) + 1))) 14 (o + 45) (Y0 0 1)) 0 (upd (kE (kE Y0 0 10 (Int32.ofNat ((o + 45) + 1))) 14 (o + 45) (Y0 0 1) 0) 1 (Y0 0 1)) = (kp1 Y0 (o + 45) 1) := rfl
  have v1 : kE (kE Y0 0 10 (Int32.ofNat ((o + 45) + 1))) 14 (o + 45) (Y0 0 1) 0 2 = (kp1 Y0 (o + 45) 1) 0 2 := by rw [w0_1 2 (by decide), kE_at, if_neg (by omega), kE_at, if_neg (by omega)]
  dsimp only
  rw [u1, v1]
  clear u1 v1 q1
  generalize (kp1 Y0 (o + 45) 1) = Y1 at y9_1 y10_1 w0_1 wr_1 w14_1 ⊢
  have q2 := pok k (o + 46) (by omega) Y1 B y9_1 y10_1 (Y1 0 2)
  have y9_2 : (kp1 Y1 (o + 46) 2) 0 9 = 1 := by rw [kp1_0 _ _ _ _ (by decide) (by decide)]; exact y9_1
  have y10_2 : (kp1 Y1 (o + 46) 2) 0 10 = Int32.ofNat ((o + 46) + 1) := kp1_10 _ _ _ (by decide)
  have w0_2 : ∀ z, z ≠ 10 → (kp1 Y1 (o + 46) 2) 0 z = Y1 0 z := fun z hz => kp1_0 _ _ _ z (by decide) hz
  have w14_2 : ∀ z, (kp1 Y1 (o + 46) 2) 14 z = if z = (o + 46) then Y1 0 2 else Y1 14 z := fun z => kp1_14 _ _ _ z
  have wr_2 : ∀ r, r ≠ 0 → r ≠ 14 → (kp1 Y1 (o + 46) 2) r = Y1 r := fun r h1 h2 => kp1_r _ _ _ r h1 h2
  rw [q2, p_bs]
  have u2 : kS (kE (kE Y1 0 10 (Int32.ofNat ((o + 46) + 1))) 14 (o + 46) (Y1 0 2)) 0 (upd (kE (kE Y1 0 10 (Int32.ofNat ((o + 46) + 1))) 14 (o + 46) (Y1 0 2) 0) 2 (Y1 0 2)) = (kp1 Y1 (o + 46) 2) := rfl
  have v2 : kE (kE Y1 0 10 (Int32.ofNat ((o + 46) + 1))) 14 (o + 46) (Y1 0 2) 0 3 = (kp1 Y1 (o + 46) 2) 0 3 := by rw [w0_2 3 (by decide), kE_at, if_neg (by omega), kE_at, if_neg (by omega)]
  dsimp only
  rw [u2, v2]
  clear u2 v2 q2
  generalize (kp1 Y1 (o + 46) 2) = Y2 at y9_2 y10_2 w0_2 wr_2 w14_2 ⊢
  have q3 := pok k (o + 47) (by omega) Y2 B y9_2 y10_2 (Y2 0 3)
  have y9_3 : (kp1 Y2 (o + 47) 3) 0 9 = 1 := by rw [kp1_0 _ _ _ _ (by decide) (by decide)]; exact y9_2
  have y10_3 : (kp1 Y2 (o + 47) 3) 0 10 = Int32.ofNat ((o + 47) + 1) := kp1_10 _ _ _ (by decide)
  have w0_3 : ∀ z, z ≠ 10 → (kp1 Y2 (o + 47) 3) 0 z = Y2 0 z := fun z hz => kp1_0 _ _ _ z (by decide) hz
  have w14_3 : ∀ z, (kp1 Y2 (o + 47) 3) 14 z = if z = (o + 47) then Y2 0 3 else Y2 14 z := fun z => kp1_14 _ _ _ z
  have wr_3 : ∀ r, r ≠ 0 → r ≠ 14 → (kp1 Y2 (o + 47) 3) r = Y2 r := fun r h1 h2 => kp1_r _ _ _ r h1 h2
  rw [q3, p_bs]
  have u3 : kS (kE (kE Y2 0 10 (Int32.ofNat ((o + 47) + 1))) 14 (o + 47) (Y2 0 3)) 0 (upd (kE (kE Y2 0 10 (Int32.ofNat ((o + 47) + 1))) 14 (o + 47) (Y2 0 3) 0) 3 (Y2 0 3)) = (kp1 Y2 (o + 47) 3) := rfl
  have v3 : kE (kE Y2 0 10 (Int32.ofNat ((o + 47) + 1))) 14 (o + 47) (Y2 0 3) 0 4 = (kp1 Y2 (o + 47) 3) 0 4 := by rw [w0_3 4 (by decide), kE_at, if_neg (by omega), kE_at, if_neg (by omega)]
  dsimp only
  rw [u3, v3]
  clear u3 v3 q3
  generalize (kp1 Y2 (o + 47) 3) = Y3 at y9_3 y10_3 w0_3 wr_3 w14_3 ⊢
  have q4 := pok k (o + 48) (by omega) Y3 B y9_3 y10_3 (Y3 0 4)
  have y9_4 : (kp1 Y3 (o + 48) 4) 0 9 = 1 := by rw [kp1_0 _ _ _ _ (by decide) (by decide)]; exact y9_3
  have y10_4 : (kp1 Y3 (o + 48) 4) 0 10 = Int32.ofNat ((o + 48) + 1) := kp1_10 _ _ _ (by decide)
  have w0_4 : ∀ z, z ≠ 10 → (kp1 Y3 (o + 48) 4) 0 z = Y3 0 z := fun z hz => kp1_0 _ _ _ z (by decide) hz
  have w14_4 : ∀ z, (kp1 Y3 (o + 48) 4) 14 z = if z = (o + 48) then Y3 0 4 else Y3 14 z := fun z => kp1_14 _ _ _ z
  have wr_4 : ∀ r, r ≠ 0 → r ≠ 14 → (kp1 Y3 (o + 48) 4) r = Y3 r := fun r h1 h2 => kp1_r _ _ _ r h1 h2
  rw [q4, p_bs]
  have u4 : kS (kE (kE Y3 0 10 (Int32.ofNat ((o + 48) + 1))) 14 (o + 48) (Y3 0 4)) 0 (upd (kE (kE Y3 0 10 (Int32.ofNat ((o + 48) + 1))) 14 (o + 48) (Y3 0 4) 0) 4 (Y3 0 4)) = (kp1 Y3 (o + 48) 4) := rfl
  dsimp only
  rw [u4]
  clear u4 q4
  generalize (kp1 Y3 (o + 48) 4) = Y4 at y9_4 y10_4 w0_4 wr_4 w14_4 ⊢
  have F0 : ∀ z, z ≠ 9 → z ≠ 10 → Y4 0 z = A 0 z := fun z h1 h2 => by rw [w0_4 z h2, w0_3 z h2, w0_2 z h2, w0_1 z h2, w0_0 z h2, z7 z h2, z6 z h2, z5 z h2, z4 z h2, z3 z h2, z2 z h2, z1 z h2, z0 z h2, s0 z h1 h2]
  have Rr : ∀ r, r ≠ 0 → r ≠ 14 → X8 r = A r ∧ X7 r = A r ∧ X6 r = A r ∧ X5 r = A r ∧ X4 r = A r ∧ X3 r = A r ∧ X2 r = A r ∧ X1 r = A r ∧ X0 r = A r := fun r a1 a2 => by
    have t0 := sr r a1
    have t1 := (r0 r a1 a2).trans t0
    have t2 := (r1 r a1 a2).trans t1
    have t3 := (r2 r a1 a2).trans t2
    have t4 := (r3 r a1 a2).trans t3
    have t5 := (r4 r a1 a2).trans t4
    have t6 := (r5 r a1 a2).trans t5
    have t7 := (r6 r a1 a2).trans t6
    have t8 := (r7 r a1 a2).trans t7
    exact ⟨t8, t7, t6, t5, t4, t3, t2, t1, t0⟩
  have X8_0 : ∀ z, z ≠ 9 → z ≠ 10 → X8 0 z = A 0 z := fun z h1 h2 => by rw [z7 z h2, z6 z h2, z5 z h2, z4 z h2, z3 z h2, z2 z h2, z1 z h2, z0 z h2, s0 z h1 h2]
  have Yz : ∀ z, Y4 14 z = if z = o + 48 then A 0 4 else if z = o + 47 then A 0 3 else if z = o + 46 then A 0 2 else if z = o + 45 then A 0 1 else if z = o + 44 then A 0 0 else X8 14 z := fun z => by
    rw [w14_4, w14_3, w14_2, w14_1, w14_0, w0_3 4 (by decide), w0_2 4 (by decide), w0_1 4 (by decide), w0_0 4 (by decide), w0_2 3 (by decide), w0_1 3 (by decide), w0_0 3 (by decide), w0_1 2 (by decide), w0_0 2 (by decide), w0_0 1 (by decide), X8_0 0 (by decide) (by decide), X8_0 1 (by decide) (by decide), X8_0 2 (by decide) (by decide), X8_0 3 (by decide) (by decide), X8_0 4 (by decide) (by decide)]
  have Xz : ∀ z, X8 14 z = if o + 40 ≤ z ∧ z < o + 40 + 4 then A 9 (z - (o + 40)) else (if o + 32 ≤ z ∧ z < o + 32 + 8 then A 8 (z - (o + 32)) else (if o + 24 ≤ z ∧ z < o + 24 + 8 then A 7 (z - (o + 24)) else (if o + 20 ≤ z ∧ z < o + 20 + 4 then A 6 (z - (o + 20)) else (if o + 15 ≤ z ∧ z < o + 15 + 5 then A 5 (z - (o + 15)) else (if o + 10 ≤ z ∧ z < o + 10 + 5 then A 4 (z - (o + 10)) else (if o + 5 ≤ z ∧ z < o + 5 + 5 then A 3 (z - (o + 5)) else (if o ≤ z ∧ z < o + 5 then A 2 (z - o) else A 14 z))))))) := fun z => by
    rw [h7, h6, h5, h4, h3, h2, h1, h0, (Rr 9 (by decide) (by decide)).2.1, (Rr 8 (by decide) (by decide)).2.2.1, (Rr 7 (by decide) (by decide)).2.2.2.1, (Rr 6 (by decide) (by decide)).2.2.2.2.1, (Rr 5 (by decide) (by decide)).2.2.2.2.2.1, (Rr 4 (by decide) (by decide)).2.2.2.2.2.2.1, (Rr 3 (by decide) (by decide)).2.2.2.2.2.2.2.1, (Rr 2 (by decide) (by decide)).2.2.2.2.2.2.2.2, sr 14 (by decide)]
  refine ⟨Y4, rfl, F0, fun r a1 a2 => ?_, fun z hz => ?_, fun r i hd => ?_⟩
  · rw [wr_4 r a1 a2, wr_3 r a1 a2, wr_2 r a1 a2, wr_1 r a1 a2, wr_0 r a1 a2, (Rr r a1 a2).1]
  · rw [Yz, if_neg (by omega), if_neg (by omega), if_neg (by omega), if_neg (by omega), if_neg (by omega), Xz]
    repeat rw [if_neg (by omega)]
  · rcases hd with ⟨rfl, hi⟩ | ⟨hr, hi⟩ | ⟨hr, hi⟩ | ⟨hr, hi⟩
    · rcases p_i5 hi with rfl | rfl | rfl | rfl | rfl
      · show Y4 14 (o + 44) = A 0 0
        rw [Yz]
        repeat first | rw [if_pos (by omega)] | rw [if_neg (by omega)]
      · show Y4 14 (o + 45) = A 0 1
        rw [Yz]
        repeat first | rw [if_pos (by omega)] | rw [if_neg (by omega)]
      · show Y4 14 (o + 46) = A 0 2
        rw [Yz]
        repeat first | rw [if_pos (by omega)] | rw [if_neg (by omega)]
      · show Y4 14 (o + 48) = A 0 4
        rw [Yz]
        repeat first | rw [if_pos (by omega)] | rw [if_neg (by omega)]
      · show Y4 14 (o + 47) = A 0 3
        rw [Yz]
        repeat first | rw [if_pos (by omega)] | rw [if_neg (by omega)]
    · rcases hr with rfl | rfl
      · show Y4 14 (o + (24 + i)) = A 7 i
        rw [Yz, if_neg (by omega), if_neg (by omega), if_neg (by omega), if_neg (by omega), if_neg (by omega), Xz]
        repeat first | rw [if_pos (by omega)] | rw [if_neg (by omega)]
        congr 1
        omega
      · show Y4 14 (o + (32 + i)) = A 8 i
        rw [Yz, if_neg (by omega), if_neg (by omega), if_neg (by omega), if_neg (by omega), if_neg (by omega), Xz]
        repeat first | rw [if_pos (by omega)] | rw [if_neg (by omega)]
        congr 1
        omega
    · rcases hr with rfl | rfl
      · show Y4 14 (o + (20 + i)) = A 6 i
        rw [Yz, if_neg (by omega), if_neg (by omega), if_neg (by omega), if_neg (by omega), if_neg (by omega), Xz]
        repeat first | rw [if_pos (by omega)] | rw [if_neg (by omega)]
        congr 1
        omega
      · show Y4 14 (o + (40 + i)) = A 9 i
        rw [Yz, if_neg (by omega), if_neg (by omega), if_neg (by omega), if_neg (by omega), if_neg (by omega), Xz]
        repeat first | rw [if_pos (by omega)] | rw [if_neg (by omega)]
        congr 1
        omega
    · have hr4 : r = 5 ∨ r = 6 ∨ r = 7 ∨ r = 8 := by omega
      rcases hr4 with rfl | rfl | rfl | rfl
      · show Y4 14 (o + i) = A 2 i
        rw [Yz, if_neg (by omega), if_neg (by omega), if_neg (by omega), if_neg (by omega), if_neg (by omega), Xz]
        repeat first | rw [if_pos (by omega)] | rw [if_neg (by omega)]
        congr 1
        omega
      · show Y4 14 (o + (5 + i)) = A 3 i
        rw [Yz, if_neg (by omega), if_neg (by omega), if_neg (by omega), if_neg (by omega), if_neg (by omega), Xz]
        repeat first | rw [if_pos (by omega)] | rw [if_neg (by omega)]
        congr 1
        omega
      · show Y4 14 (o + (10 + i)) = A 4 i
        rw [Yz, if_neg (by omega), if_neg (by omega), if_neg (by omega), if_neg (by omega), if_neg (by omega), Xz]
        repeat first | rw [if_pos (by omega)] | rw [if_neg (by omega)]
        congr 1
        omega
      · show Y4 14 (o + (15 + i)) = A 5 i
        rw [Yz, if_neg (by omega), if_neg (by omega), if_neg (by omega), if_neg (by omega), if_neg (by omega), Xz]
        repeat first | rw [if_pos (by omega)] | rw [if_neg (by omega)]
        congr 1
        omega
