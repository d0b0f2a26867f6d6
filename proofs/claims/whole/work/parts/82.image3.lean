theorem dm9 {r i : Nat} (h : dm r i) : r < 9 ∧ i < 8 ∧ (r = 0 → i < 5) := by
  unfold dm at h
  refine ⟨by omega, by omega, by omega⟩
theorem mK_same {A A2 : Nat → Nat → Int32} (h0 : ∀ z, z < 5 → A2 0 z = A 0 z) (hr : ∀ r, 2 ≤ r → r ≤ 9 → A2 r = A r) : ∀ r i, r < 9 → i < 8 → (r = 0 → i < 5) → mK A2 r i = mK A r i := by
  intro r i h1 _ hz
  rcases p_r9 h1 with rfl | rfl | rfl | rfl | rfl | rfl | rfl | rfl | rfl
  · rcases p_i5 (hz rfl) with rfl | rfl | rfl | rfl | rfl
    · exact h0 0 (by decide)
    · exact h0 1 (by decide)
    · exact h0 2 (by decide)
    · exact h0 4 (by decide)
    · exact h0 3 (by decide)
  · exact congrFun (hr 7 (by decide) (by decide)) i
  · exact congrFun (hr 8 (by decide) (by decide)) i
  · exact congrFun (hr 6 (by decide) (by decide)) i
  · exact congrFun (hr 9 (by decide) (by decide)) i
  · exact congrFun (hr 2 (by decide) (by decide)) i
  · exact congrFun (hr 3 (by decide) (by decide)) i
  · exact congrFun (hr 4 (by decide) (by decide)) i
  · exact congrFun (hr 5 (by decide) (by decide)) i
theorem o_image {S M : ST} (R : Rel S M) (k : Nat) : O2 (f_X3_image S (k + 200)) (f_X4_image M (k + 200)) := by
  unfold f_X3_image f_X4_image
  have h00 := R.g.1.1
  obtain ⟨Kr, a1, a2, a3⟩ := c_copy k (kR S.1 2) (kR S.1 0) (by rw [kR0]; exact h00)
  obtain ⟨A2, b1, b2, b3, b4, b5⟩ := pall_k k 0 (by decide) (kE M.1 0 8 1) M.2 0 rfl
  have b1' : f_X4_passesAll (kS M.1 0 (upd (M.1 0) 8 1), M.2) 0 true (k + 200) = some (A2, M.2) := b1
  rw [a1, p_bs, b1', p_bs]
  dsimp only
  have e0 : ∀ z, z ≠ 8 → z ≠ 9 → z ≠ 10 → A2 0 z = M.1 0 z := fun z h1 h2 h3 => by rw [b2 z h2 h3, kE_at, if_neg (by omega)]
  have er : ∀ r, r ≠ 0 → r ≠ 14 → A2 r = M.1 r := fun r h1 h2 => by
    rw [b3 r h1 h2]
    show (if r = 0 then _ else M.1 r) = _
    rw [if_neg h1]
  have c := a2.kr (by rw [kR0]; exact R.k) (by rw [kR0]; exact R.g)
  have emk := mK_same (A := M.1) (A2 := A2) (fun z hz => e0 z (by omega) (by omega) (by omega)) (fun r h1 h2 => er r (by omega) (by omega))
  have ekk : ∀ r i, dm r i → kK A2 0 r i = mK M.1 r i := fun r i hd => by
    rw [b5 r i hd]
    exact mK_same (A := M.1) (A2 := kE M.1 0 8 1) (fun z hz => by rw [kE_at, if_neg (by omega)]) (fun r h1 h2 => by
      show (if r = 0 then _ else M.1 r) = _
      rw [if_neg (by omega)]) r i (dm9 hd).1 (dm9 hd).2.1 (dm9 hd).2.2
  have kp : ∀ a, ¬ (20 ≤ a ∧ a < 30) → kP S.1 2 Kr a = S.1 a := fun a ha => by
    unfold kP
    rw [if_neg (by omega)]
  have kp2 : ∀ r, r < 9 → kP S.1 2 Kr (20 + r) = Kr r := fun r hr => by
    unfold kP
    rw [if_pos (by omega), show 20 + r - 10 * 2 = r by omega]
  obtain ⟨g1, g2, g3, g4, g5, g6⟩ := R
  refine ⟨S.1 0 0, _, _, by rw [kp 0 (by omega)], by rw [e0 0 (by decide) (by decide) (by decide), show M.1 0 0 = S.1 0 0 from g1.1.1.symm], ?_⟩
  have st : ∀ r, r ≠ 30 → kS (kP S.1 2 Kr) 30 (upd (kP S.1 2 Kr 30) 0 1) r = kP S.1 2 Kr r := fun r hr => by
    show (if r = 30 then _ else _) = _
    rw [if_neg hr]
  have s30 : ∀ z, z ≠ 0 → kS (kP S.1 2 Kr) 30 (upd (kP S.1 2 Kr 30) 0 1) 30 z = S.1 30 z := fun z hz => by
    show (if z = 0 then _ else kP S.1 2 Kr 30 z) = _
    rw [if_neg hz, kp 30 (by omega)]
  refine ⟨?_, ?_, ⟨?_, Or.inr rfl, fun _ => ⟨?_, ?_⟩⟩, ⟨?_, ?_, fun i hi => ?_⟩, ⟨?_, ?_, fun i hi => ?_⟩, fun i hi => ?_⟩
  · refine g1.congrP (fun r i h1 _ _ => ?_) (fun r i h1 h2 h3 => emk r i h1 h2 h3)
    show kS (kP S.1 2 Kr) 30 _ (10 * 0 + r) i = S.1 (10 * 0 + r) i
    rw [st _ (by omega), kp _ (by omega)]
  · refine g2.congrP (fun r i h1 _ _ => ?_)
    show kS (kP S.1 2 Kr) 30 _ (10 * 0 + r) i = S.1 (10 * 0 + r) i
    rw [st _ (by omega), kp _ (by omega)]
  · show (1 : Int32) = A2 0 8
    rw [b2 8 (by decide) (by decide), kE_at, if_pos ⟨rfl, rfl⟩]
  · refine c.1.congrD (fun r i hd => ?_) ekk
    show kS (kP S.1 2 Kr) 30 _ (20 + r) i = Kr r i
    have := (dm9 hd).1
    rw [st _ (by omega), kp2 r this]
  · refine c.2.congrP (fun r i h1 _ _ => ?_)
    show kS (kP S.1 2 Kr) 30 _ (20 + r) i = Kr r i
    rw [st _ (by omega), kp2 r h1]
  · rw [show ((A2, M.2) : ST).1 0 5 = M.1 0 5 from e0 5 (by decide) (by decide) (by decide)]
    exact (s30 1 (by decide)).trans g4.1
  · dsimp only
    rw [s30 1 (by decide)]
    exact g4.2.1
  · dsimp only
    rw [st 31 (by decide), kp 31 (by omega), er 10 (by decide) (by decide)]
    exact g4.2.2 i hi
  · rw [show ((A2, M.2) : ST).1 0 11 = M.1 0 11 from e0 11 (by decide) (by decide) (by decide)]
    exact (s30 2 (by decide)).trans g5.1
  · dsimp only
    rw [s30 2 (by decide)]
    exact g5.2.1
  · dsimp only
    rw [st 32 (by decide), kp 32 (by omega), er 15 (by decide) (by decide)]
    exact g5.2.2 i hi
  · dsimp only
    rw [st 33 (by decide), kp 33 (by omega), er 1 (by decide) (by decide)]
    exact g6 i hi
theorem o_restore {S M : ST} (R : Rel S M) (k : Nat) : O2 (f_X3_restore S (k + 200)) (f_X4_restore M (k + 200)) := by
  unfold f_X3_restore f_X4_restore
  have hI := R.2.2.1
  rw [← hI.1]
  rcases hI.2.1 with h | h
  · rw [if_pos h, if_pos h]
    exact ref_no R (Or.inr (Or.inr (Or.inl rfl))) k
  · rw [if_neg (by rw [h]; decide), if_neg (by rw [h]; decide)]
    obtain ⟨hk, hg⟩ := hI.2.2 h
    obtain ⟨Kr, a1, a2, a3⟩ := c_copy k (kR S.1 0) (kR S.1 2) hg.1.1
    obtain ⟨A2, b1, b2, b3, b4⟩ := pall_r k 0 (by decide) M.1 M.2 0 rfl
    have b1' : f_X4_passesAll M 0 false (k + 200) = some (A2, M.2) := b1
    rw [a1, p_bs, b1', p_bs]
    have c := a2.kr hk hg
    rw [kP_same (fun r hr => (a3 r hr).trans (by rw [kR0]))]
    have RK2 : RKt Kr (mK A2) := c.1.congrD (fun _ _ _ => rfl) b4
    refine ⟨Kr 0 0, _, _, rfl, by rw [show Kr 0 0 = A2 0 0 from RK2.1.1], R.now RK2 c.2 (fun r h1 _ _ => (a3 r (by omega)).trans (by rw [kR0])) ⟨b3 1 (by decide) (by decide), b3 10 (by decide) (by decide), fun i _ => congrFun (b3 14 (by decide) (by decide)) i, b3 15 (by decide) (by decide), b2 5 (by decide) (by decide) (by decide), b2 8 (by decide) (by decide) (by decide), b2 11 (by decide) (by decide) (by decide)⟩⟩
