/-! both sides made anew -/
theorem kk0 : ∀ i, i < 4 → k_K0 3 i = k_M0.1 6 i ∧ 0 ≤ k_K0 3 i ∧ k_K0 3 i ≤ 9 := by
  intro i hi
  have : i = 0 ∨ i = 1 ∨ i = 2 ∨ i = 3 := by omega
  rcases this with rfl | rfl | rfl | rfl <;> decide +kernel
theorem rel0 : Rel k_S0 k_M0 := by
  have e0 : ∀ i, k_K0 0 i = if i = 3 then 1 else 0 := fun _ => rfl
  have m0 : ∀ i, k_M0.1 0 i = if i = 4 then 1 else 0 := fun _ => rfl
  have ek : ∀ r i, r ≠ 0 → r ≠ 3 → k_K0 r i = 0 := fun r i h1 h2 => by
    unfold k_K0
    rw [if_neg h1, if_neg h2]
  have em : ∀ r i, r ≠ 0 → r ≠ 6 → k_M0.1 r i = 0 := fun r i h1 h2 => by
    show (if r = 0 then _ else if r = 6 then _ else fun _ => (0 : Int32)) i = 0
    rw [if_neg h1, if_neg h2]
  have es : ∀ r, r < 9 → kR k_S0.1 0 r = k_K0 r := fun r hr => by
    show (if 10 * 0 + r < 30 then k_K0 ((10 * 0 + r) % 10) else fun _ => 0) = _
    rw [if_pos (by omega), show (10 * 0 + r) % 10 = r by omega]
  have es3 : ∀ r i, 30 ≤ r → k_S0.1 r i = 0 := fun r i hr => by
    show (if r < 30 then k_K0 (r % 10) else fun _ => 0) i = 0
    rw [if_neg (by omega)]
  have hj : ∀ i : Nat, i < 5 → ¬ Int32.ofNat i < k_K0 0 0 := fun i hi z => by
    have := (p_lt (b := 0) (by omega) (by omega)).mp (show Int32.ofNat i < Int32.ofNat 0 from z)
    omega
  have z8 : (0 : Int32) ≤ 0 := by decide
  have G : GK k_K0 := ⟨⟨⟨by decide +kernel, by decide +kernel⟩, ⟨by decide +kernel, Or.inr ⟨rfl, rfl⟩⟩, ⟨by decide +kernel, by decide +kernel⟩, ⟨by decide +kernel, by decide +kernel⟩, ⟨by decide +kernel, by decide +kernel⟩⟩, fun i _ => by
    rw [ek 1 i (by decide) (by decide), ek 2 i (by decide) (by decide)]
    decide, fun i hi => ⟨(kk0 i hi).2, by rw [ek 4 i (by decide) (by decide)]; decide⟩, fun i hi h => absurd h (hj i hi), fun i hi h => absurd h (hj i hi)⟩
  have K : RKt k_K0 (mK k_M0.1) := ⟨⟨by decide +kernel, by decide +kernel, by decide +kernel, by decide +kernel, by decide +kernel⟩, fun i _ => ⟨(ek 1 i (by decide) (by decide)).trans (em 7 i (by decide) (by decide)).symm, (ek 2 i (by decide) (by decide)).trans (em 8 i (by decide) (by decide)).symm⟩, fun i hi => ⟨(kk0 i hi).1, (ek 4 i (by decide) (by decide)).trans (em 9 i (by decide) (by decide)).symm⟩, fun i hi h => absurd h (hj i hi)⟩
  refine ⟨K.congr (fun r hr => (es r hr).symm) (fun _ _ => rfl), G.congr (fun r hr => (es r hr).symm), ⟨?_, ?_, ?_⟩, ⟨?_, ?_, ?_⟩, ⟨?_, ?_, ?_⟩, ?_⟩
  · rw [es3 30 0 (by decide)]; rfl
  · exact Or.inl (es3 30 0 (by decide))
  · intro z
    rw [es3 30 0 (by decide)] at z
    exact absurd z (by decide)
  · rw [es3 30 1 (by decide)]; rfl
  · rw [es3 30 1 (by decide)]; decide
  · intro i _
    rw [es3 31 i (by decide), em 10 i (by decide) (by decide)]
  · rw [es3 30 2 (by decide)]; rfl
  · rw [es3 30 2 (by decide)]; decide
  · intro i _
    rw [es3 32 i (by decide), em 15 i (by decide) (by decide)]
    decide
  · intro i _
    rw [es3 33 i (by decide), em 1 i (by decide) (by decide)]
