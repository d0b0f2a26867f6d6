theorem pall_r (k : Nat) (o : Nat) (ho : o ≤ 60) (A : Nat → Nat → Int32) (B : Nat → Nat → Int64) (p : Int32) (hp : 60 * p = Int32.ofNat o) : ∃ A2, f_X4_passesAll (A, B) p false (k + 200) = some (A2, B) ∧ (∀ z, 4 < z → z ≠ 9 → z ≠ 10 → A2 0 z = A 0 z) ∧ (∀ r, r ≠ 0 → ¬ (2 ≤ r ∧ r ≤ 9) → A2 r = A r) ∧ ∀ r i, dm r i → mK A2 r i = kK A o r i := by
  have s9 : kS A 0 (upd (upd (A 0) 9 (b2i false)) 10 (60 * p)) 0 9 = 0 := rfl
  have s10 : kS A 0 (upd (upd (A 0) 9 (b2i false)) 10 (60 * p)) 0 10 = Int32.ofNat o := hp
  have s0 : ∀ z, z ≠ 9 → z ≠ 10 → kS A 0 (upd (upd (A 0) 9 (b2i false)) 10 (60 * p)) 0 z = A 0 z := fun z h1 h2 => by
    show (if z = 10 then _ else (if z = 9 then _ else A 0 z)) = _
    rw [if_neg h2, if_neg h1]
  have sr : ∀ r, r ≠ 0 → kS A 0 (upd (upd (A 0) 9 (b2i false)) 10 (60 * p)) r = A r := fun r hr => by
    show (if r = 0 then _ else A r) = _
    rw [if_neg hr]
  have hdef : f_X4_passesAll (A, B) p false (k + 200) = f_X4_passesAll (A, B) p false (k + 200) := rfl
  conv at hdef => rhs; unfold f_X4_passesAll
  rw [hdef]
  clear hdef
  dsimp only
  generalize kS A 0 (upd (upd (A 0) 9 (b2i false)) 10 (60 * p)) = X0 at s9 s10 s0 sr ⊢
  obtain ⟨X1, g0, h0, c0, z0, r0⟩ := pr0 k o (by omega) X0 B s9 s10
  have n0 : X1 0 9 = 0 := (z0 9 (by decide)).trans s9
  obtain ⟨X2, g1, h1, c1, z1, r1⟩ := pr1 k (o + 5) (by omega) X1 B n0 c0
  have n1 : X2 0 9 = 0 := (z1 9 (by decide)).trans n0
  obtain ⟨X3, g2, h2, c2, z2, r2⟩ := pr2 k (o + 10) (by omega) X2 B n1 c1
  have n2 : X3 0 9 = 0 := (z2 9 (by decide)).trans n1
  obtain ⟨X4, g3, h3, c3, z3, r3⟩ := pr3 k (o + 15) (by omega) X3 B n2 c2
  have n3 : X4 0 9 = 0 := (z3 9 (by decide)).trans n2
  obtain ⟨X5, g4, h4, c4, z4, r4⟩ := pr4 k (o + 20) (by omega) X4 B n3 c3
  have n4 : X5 0 9 = 0 := (z4 9 (by decide)).trans n3
  obtain ⟨X6, g5, h5, c5, z5, r5⟩ := pr5 k (o + 24) (by omega) X5 B n4 c4
  have n5 : X6 0 9 = 0 := (z5 9 (by decide)).trans n4
  obtain ⟨X7, g6, h6, c6, z6, r6⟩ := pr6 k (o + 32) (by omega) X6 B n5 c5
  have n6 : X7 0 9 = 0 := (z6 9 (by decide)).trans n5
  obtain ⟨X8, g7, h7, c7, z7, r7⟩ := pr7 k (o + 40) (by omega) X7 B n6 c6
  have n7 : X8 0 9 = 0 := (z7 9 (by decide)).trans n6
  rw [g0, p_bs, g1, p_bs, g2, p_bs, g3, p_bs, g4, p_bs, g5, p_bs, g6, p_bs, g7, p_bs]
  have q0 := por k (o + 44) (by omega) X8 B n7 c7 (X8 0 0)
  have y9_0 : (rpo1 X8 (o + 44) 0) 0 9 = 0 := by rw [rpo1_0 _ _ _ _ (by decide) (by decide)]; rw [if_neg (by decide)]; exact n7
  have y10_0 : (rpo1 X8 (o + 44) 0) 0 10 = Int32.ofNat ((o + 44) + 1) := rpo1_10 _ _ _ (by decide)
  have w0_0 : ∀ z, z ≠ 10 → (rpo1 X8 (o + 44) 0) 0 z = if z = 0 then X8 14 (o + 44) else X8 0 z := fun z hz => rpo1_0 _ _ _ z (by decide) hz
  have wr_0 : ∀ r, r ≠ 0 → (rpo1 X8 (o + 44) 0) r = X8 r := fun r h1 => rpo1_r _ _ _ r h1
  rw [q0, p_bs]
  have u0 : kS (kE X8 0 10 (Int32.ofNat ((o + 44) + 1))) 0 (upd (kE X8 0 10 (Int32.ofNat ((o + 44) + 1)) 0) 0 (X8 14 (o + 44))) = (rpo1 X8 (o + 44) 0) := rfl
  have v0 : kE X8 0 10 (Int32.ofNat ((o + 44) + 1)) 0 1 = (rpo1 X8 (o + 44) 0) 0 1 := by rw [w0_0 1 (by decide), if_neg (by decide), kE_at, if_neg (by omega)]
  dsimp only
  rw [u0, v0]
  clear u0 v0 q0
  generalize (rpo1 X8 (o + 44) 0) = Y0 at y9_0 y10_0 w0_0 wr_0 ⊢
  have q1 := por k (o + 45) (by omega) Y0 B y9_0 y10_0 (Y0 0 1)
  have y9_1 : (rpo1 Y0 (o + 45) 1) 0 9 = 0 := by rw [rpo1_0 _ _ _ _ (by decide) (by decide)]; rw [if_neg (by decide)]; exact y9_0
  have y10_1 : (rpo1 Y0 (o + 45) 1) 0 10 = Int32.ofNat ((o + 45) + 1) := rpo1_10 _ _ _ (by decide)
  have w0_1 : ∀ z, z ≠ 10 → (rpo1 Y0 (o + 45) 1) 0 z = if z = 1 then Y0 14 (o + 45) else Y0 0 z := fun z hz => rpo1_0 _ _ _ z (by decide) hz
  have wr_1 : ∀ r, r ≠ 0 → (rpo1 Y0 (o + 45) 1) r = Y0 r := fun r h1 => rpo1_r _ _ _ r h1
  rw [q1, p_bs]
  have u1 : kS (kE Y0 0 10 (Int32.ofNat ((o + 45) + 1))) 0 (upd (kE Y0 0 10 (Int32.ofNat ((o + 45) + 1)) 0) 1 (Y0 14 (o + 45))) = (rpo1 Y0 (o + 45) 1) := rfl
  have v1 : kE Y0 0 10 (Int32.ofNat ((o + 45) + 1)) 0 2 = (rpo1 Y0 (o + 45) 1) 0 2 := by rw [w0_1 2 (by decide), if_neg (by decide), kE_at, if_neg (by omega)]
  dsimp only
  rw [u1, v1]
  clear u1 v1 q1
  generalize (rpo1 Y0 (o + 45) 1) = Y1 at y9_1 y10_1 w0_1 wr_1 ⊢
  have q2 := por k (o + 46) (by omega) Y1 B y9_1 y10_1 (Y1 0 2)
  have y9_2 : (rpo1 Y1 (o + 46) 2) 0 9 = 0 := by rw [rpo1_0 _ _ _ _ (by decide) (by decide)]; rw [if_neg (by decide)]; exact y9_1
  have y10_2 : (rpo1 Y1 (o + 46) 2) 0 10 = Int32.ofNat ((o + 46) + 1) := rpo1_10 _ _ _ (by decide)
  have w0_2 : ∀ z, z ≠ 10 → (rpo1 Y1 (o + 46) 2) 0 z = if z = 2 then Y1 14 (o + 46) else Y1 0 z := fun z hz => rpo1_0 _ _ _ z (by decide) hz
  have wr_2 : ∀ r, r ≠ 0 → (rpo1 Y1 (o + 46) 2) r = Y1 r := fun r h1 => rpo1_r _ _ _ r h1
  rw [q2, p_bs]
  have u2 : kS (kE Y1 0 10 (Int32.ofNat ((o + 46) + 1))) 0 (upd (kE Y1 0 10 (Int32.ofNat ((o + 46) + 1)) 0) 2 (Y1 14 (o + 46))) = (rpo1 Y1 (o + 46) 2) := rfl
  have v2 : kE Y1 0 10 (Int32.ofNat ((o + 46) + 1)) 0 3 = (rpo1 Y1 (o + 46) 2) 0 3 := by rw [w0_2 3 (by decide), if_neg (by decide), kE_at, if_neg (by omega)]
  dsimp only
  rw [u2, v2]
  clear u2 v2 q2
  generalize (rpo1 Y1 (o + 46) 2) = Y2 at y9_2 y10_2 w0_2 wr_2 ⊢
  have q3 := por k (o + 47) (by omega) Y2 B y9_2 y10_2 (Y2 0 3)
  have y9_3 : (rpo1 Y2 (o + 47) 3) 0 9 = 0 := by rw [rpo1_0 _ _ _ _ (by decide) (by decide)]; rw [if_neg (by decide)]; exact y9_2
  have y10_3 : (rpo1 Y2 (o + 47) 3) 0 10 = Int32.ofNat ((o + 47) + 1) := rpo1_10 _ _ _ (by decide)
  have w0_3 : ∀ z, z ≠ 10 → (rpo1 Y2 (o + 47) 3) 0 z = if z = 3 then Y2 14 (o + 47) else Y2 0 z := fun z hz => rpo1_0 _ _ _ z (by decide) hz
  have wr_3 : ∀ r, r ≠ 0 → (rpo1 Y2 (o + 47) 3) r = Y2 r := fun r h1 => rpo1_r _ _ _ r h1
  rw [q3, p_bs]
  have u3 : kS (kE Y2 0 10 (Int32.ofNat ((o + 47) + 1))) 0 (upd (kE Y2 0 10 (Int32.ofNat ((o + 47) + 1)) 0) 3 (Y2 14 (o + 47))) = (rpo1 Y2 (o + 47) 3) := rfl
  have v3 : kE Y2 0 10 (Int32.ofNat ((o + 47) + 1)) 0 4 = (rpo1 Y2 (o + 47) 3) 0 4 := by rw [w0_3 4 (by decide), if_neg (by decide), kE_at, if_neg (by omega)]
  dsimp only
  rw [u3, v3]
  clear u3 v3 q3
  generalize (rpo1 Y2 (o + 47) 3) = Y3 at y9_3 y10_3 w0_3 wr_3 ⊢
  have q4 := por k (o + 48) (by omega) Y3 B y9_3 y10_3 (Y3 0 4)
  have y9_4 : (rpo1 Y3 (o + 48) 4) 0 9 = 0 := by rw [rpo1_0 _ _ _ _ (by decide) (by decide)]; rw [if_neg (by decide)]; exact y9_3
  have y10_4 : (rpo1 Y3 (o + 48) 4) 0 10 = Int32.ofNat ((o + 48) + 1) := rpo1_10 _ _ _ (by decide)
  have w0_4 : ∀ z, z ≠ 10 → (rpo1 Y3 (o + 48) 4) 0 z = if z = 4 then Y3 14 (o + 48) else Y3 0 z := fun z hz => rpo1_0 _ _ _ z (by decide) hz
  have wr_4 : ∀ r, r ≠ 0 → (rpo1 Y3 (o + 48) 4) r = Y3 r := fun r h1 => rpo1_r _ _ _ r h1
  rw [q4, p_bs]
  have u4 : kS (kE Y3 0 10 (Int32.ofNat ((o + 48) + 1))) 0 (upd (kE Y3 0 10 (Int32.ofNat ((o + 48) + 1)) 0) 4 (Y3 14 (o + 48))) = (rpo1 Y3 (o + 48) 4) := rfl
  dsimp only
  rw [u4]
  clear u4 q4
  generalize (rpo1 Y3 (o + 48) 4) = Y4 at y9_4 y10_4 w0_4 wr_4 ⊢
  have R14 : X0 14 = A 14 ∧ X1 14 = A 14 ∧ X2 14 = A 14 ∧ X3 14 = A 14 ∧ X4 14 = A 14 ∧ X5 14 = A 14 ∧ X6 14 = A 14 ∧ X7 14 = A 14 ∧ X8 14 = A 14 := by
    have t0 := sr 14 (by decide)
    have t1 := (r0 14 (by decide) (by decide)).trans t0
    have t2 := (r1 14 (by decide) (by decide)).trans t1
    have t3 := (r2 14 (by decide) (by decide)).trans t2
    have t4 := (r3 14 (by decide) (by decide)).trans t3
    have t5 := (r4 14 (by decide) (by decide)).trans t4
    have t6 := (r5 14 (by decide) (by decide)).trans t5
    have t7 := (r6 14 (by decide) (by decide)).trans t6
    have t8 := (r7 14 (by decide) (by decide)).trans t7
    exact ⟨t0, t1, t2, t3, t4, t5, t6, t7, t8⟩
  have Q14 : Y0 14 = A 14 ∧ Y1 14 = A 14 ∧ Y2 14 = A 14 ∧ Y3 14 = A 14 := by
    have t0 := (wr_0 14 (by decide)).trans R14.2.2.2.2.2.2.2.2
    have t1 := (wr_1 14 (by decide)).trans t0
    have t2 := (wr_2 14 (by decide)).trans t1
    have t3 := (wr_3 14 (by decide)).trans t2
    exact ⟨t0, t1, t2, t3⟩
  have X8_0 : ∀ z, z ≠ 9 → z ≠ 10 → X8 0 z = A 0 z := fun z h1 h2 => by rw [z7 z h2, z6 z h2, z5 z h2, z4 z h2, z3 z h2, z2 z h2, z1 z h2, z0 z h2, s0 z h1 h2]
  have Y0z : ∀ z, z ≠ 10 → Y4 0 z = if z = 4 then A 14 (o + 48) else if z = 3 then A 14 (o + 47) else if z = 2 then A 14 (o + 46) else if z = 1 then A 14 (o + 45) else if z = 0 then A 14 (o + 44) else X8 0 z := fun z hz => by
    rw [w0_4 z hz, w0_3 z hz, w0_2 z hz, w0_1 z hz, w0_0 z hz, Q14.2.2.2, Q14.2.2.1, Q14.2.1, Q14.1, R14.2.2.2.2.2.2.2.2]
  have Yr : ∀ r, r ≠ 0 → Y4 r = X8 r := fun r hr => by rw [wr_4 r hr, wr_3 r hr, wr_2 r hr, wr_1 r hr, wr_0 r hr]
  refine ⟨Y4, rfl, fun z a1 a2 a3 => ?_, fun r a1 a2 => ?_, fun r i hd => ?_⟩
  · rw [Y0z z a3, if_neg (by omega), if_neg (by omega), if_neg (by omega), if_neg (by omega), if_neg (by omega), X8_0 z a2 a3]
  · rw [Yr r a1, r7 r a1 (by omega), r6 r a1 (by omega), r5 r a1 (by omega), r4 r a1 (by omega), r3 r a1 (by omega), r2 r a1 (by omega), r1 r a1 (by omega), r0 r a1 (by omega), sr r a1]
  · rcases hd with ⟨rfl, hi⟩ | ⟨hr, hi⟩ | ⟨hr, hi⟩ | ⟨hr, hi⟩
    · rcases p_i5 hi with rfl | rfl | rfl | rfl | rfl
      · show Y4 0 0 = A 14 (o + 44)
        rw [Y0z _ (by decide)]
        rfl
      · show Y4 0 1 = A 14 (o + 45)
        rw [Y0z _ (by decide)]
        rfl
      · show Y4 0 2 = A 14 (o + 46)
        rw [Y0z _ (by decide)]
        rfl
      · show Y4 0 4 = A 14 (o + 48)
        rw [Y0z _ (by decide)]
        rfl
      · show Y4 0 3 = A 14 (o + 47)
        rw [Y0z _ (by decide)]
        rfl
    · rcases hr with rfl | rfl
      · show Y4 7 i = A 14 (o + (24 + i))
        rw [Yr 7 (by decide), r7 7 (by decide) (by decide), r6 7 (by decide) (by decide), h5, if_pos hi, R14.2.2.2.2.2.1, Nat.add_assoc]
      · show Y4 8 i = A 14 (o + (32 + i))
        rw [Yr 8 (by decide), r7 8 (by decide) (by decide), h6, if_pos hi, R14.2.2.2.2.2.2.1, Nat.add_assoc]
    · rcases hr with rfl | rfl
      · show Y4 6 i = A 14 (o + (20 + i))
        rw [Yr 6 (by decide), r7 6 (by decide) (by decide), r6 6 (by decide) (by decide), r5 6 (by decide) (by decide), h4, if_pos hi, R14.2.2.2.2.1, Nat.add_assoc]
      · show Y4 9 i = A 14 (o + (40 + i))
        rw [Yr 9 (by decide), h7, if_pos hi, R14.2.2.2.2.2.2.2.1, Nat.add_assoc]
    · have hr4 : r = 5 ∨ r = 6 ∨ r = 7 ∨ r = 8 := by omega
      rcases hr4 with rfl | rfl | rfl | rfl
      · show Y4 2 i = A 14 (o + i)
        rw [Yr 2 (by decide), r7 2 (by decide) (by decide), r6 2 (by decide) (by decide), r5 2 (by decide) (by decide), r4 2 (by decide) (by decide), r3 2 (by decide) (by decide), r2 2 (by decide) (by decide), r1 2 (by decide) (by decide), h0, if_pos hi, R14.1]
      · show Y4 3 i = A 14 (o + (5 + i))
        rw [Yr 3 (by decide), r7 3 (by decide) (by decide), r6 3 (by decide) (by decide), r5 3 (by decide) (by decide), r4 3 (by decide) (by decide), r3 3 (by decide) (by decide), r2 3 (by decide) (by decide), h1, if_pos hi, R14.2.1, Nat.add_assoc]
      · show Y4 4 i = A 14 (o + (10 + i))
        rw [Yr 4 (by decide), r7 4 (by decide) (by decide), r6 4 (by decide) (by decide), r5 4 (by decide) (by decide), r4 4 (by decide) (by decide), r3 4 (by decide) (by decide), h2, if_pos hi, R14.2.2.1, Nat.add_assoc]
      · show Y4 5 i = A 14 (o + (15 + i))
        rw [Yr 5 (by decide), r7 5 (by decide) (by decide), r6 5 (by decide) (by decide), r5 5 (by decide) (by decide), r4 5 (by decide) (by decide), h3, if_pos hi, R14.2.2.2.1, Nat.add_assoc]
