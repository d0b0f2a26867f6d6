/-! cups are used; a jug that is empty goes -/
def sdr (c jh : Nat) : Nat → Nat := fun z => if z = c - 1 then jh else if jh ≤ z ∧ z + 1 < c then z + 1 else z
theorem sdr_ok : ∀ c : Fin 6, ∀ jh : Fin 5, jh.1 < c.1 → permOk (sdr c.1 jh.1) = true := by decide +kernel
theorem l_drop (k : Nat) (K : Nat → Nat → Int32) (c : Nat) (hc : c ≤ 5) (e : K 0 0 = Int32.ofNat c) : ∀ (m i j : Nat) (si : Nat → Nat), i + m + 1 = c → (∀ z, i < z → si z = z) → ∃ q, f_X1_dropInHand_L9 K (k + 200) (m + 1 + j) (Int32.ofNat i) si = some (q, fun z => if i ≤ z ∧ z + 1 < c then z + 1 else si z) := by
  intro m
  induction m with
  | zero =>
    intro i j si h hs
    refine ⟨Int32.ofNat i, ?_⟩
    rw [show 0 + 1 + j = j + 1 by omega, f_X1_dropInHand_L9, ← p_succ, if_pos (show K 0 0 ≤ _ by rw [e]; exact (p_le (by omega) (by omega)).mpr (by omega))]
    have : (fun z => if i ≤ z ∧ z + 1 < c then z + 1 else si z) = si := by
      funext z
      rw [if_neg (by omega)]
    rw [this]
  | succ m ih =>
    intro i j si h hs
    have hb1 := p_nbi (i := i + 1) (n := 5) (by omega) (by decide)
    have hb := p_nbi (i := i) (n := 5) (by omega) (by decide)
    obtain ⟨q, g⟩ := ih (i + 1) j (va_up si i (i + 1)) (by omega) (fun z hz => by
      unfold va_up
      rw [if_neg (by omega)]
      exact hs z (by omega))
    refine ⟨q, ?_⟩
    rw [show m + 1 + 1 + j = (m + 1 + j) + 1 by omega, f_X1_dropInHand_L9, ← p_succ, if_neg (show ¬ K 0 0 ≤ _ from fun z => by rw [e] at z; have := (p_le (by omega) (by omega)).mp z; omega), if_neg (fun z => by have := (p_le (a := 5) (by omega) (by omega)).mp z; omega), p_tn (by omega), p_tn (by omega), if_neg hb1, hs (i + 1) (by omega), if_neg (by omega), if_neg hb, g]
    congr 2
    funext z
    unfold va_up
    by_cases h1 : z = i
    · subst h1
      rw [if_neg (by omega), if_pos rfl, if_pos ⟨by omega, by omega⟩]
    · by_cases h2 : i + 1 ≤ z ∧ z + 1 < c
      · rw [if_pos h2, if_pos ⟨by omega, h2.2⟩]
      · rw [if_neg h2, if_neg h1, if_neg (by omega)]
theorem l_uses (k : Nat) (B : Nat → Nat → Int64) (c : Nat) (hc : c < 5) : ∀ (m i j : Nat) (A : Nat → Nat → Int32), i + m = c → A 0 0 = Int32.ofNat c → ∃ q A2, f_X4_uses_L44 (k + 200) (m + 1 + j) (Int32.ofNat i) (A, B) = some (q, (A2, B)) ∧ (∀ r, (r = 2 ∨ r = 3 ∨ r = 4 ∨ r = 5) → ∀ z, A2 r z = if i ≤ z ∧ z < c then A r (z + 1) else A r z) ∧ ∀ r, ¬ (r = 2 ∨ r = 3 ∨ r = 4 ∨ r = 5) → A2 r = A r := by
  intro m
  induction m with
  | zero =>
    intro i j A h e
    refine ⟨Int32.ofNat i, A, ?_, fun r _ z => by rw [if_neg (by omega)], fun _ _ => rfl⟩
    rw [show 0 + 1 + j = j + 1 by omega, f_X4_uses_L44, if_pos (show A 0 0 ≤ _ by rw [e]; exact (p_le (by omega) (by omega)).mpr (by omega))]
  | succ m ih =>
    intro i j A h e
    have hb1 := p_nbi (i := i + 1) (n := 5) (by omega) (by decide)
    have hb := p_nbi (i := i) (n := 5) (by omega) (by decide)
    obtain ⟨q, A2, g1, g2, g3⟩ := ih (i + 1) j (kE (kE (kE (kE A 2 i (A 2 (i + 1))) 3 i (A 3 (i + 1))) 4 i (A 4 (i + 1))) 5 i (A 5 (i + 1))) (by omega) e
    have row : ∀ r, (r = 2 ∨ r = 3 ∨ r = 4 ∨ r = 5) → ∀ z, kE (kE (kE (kE A 2 i (A 2 (i + 1))) 3 i (A 3 (i + 1))) 4 i (A 4 (i + 1))) 5 i (A 5 (i + 1)) r z = if z = i then A r (i + 1) else A r z := by
      intro r hr z
      simp only [kE_at]
      rcases hr with rfl | rfl | rfl | rfl <;> by_cases hz : z = i <;> simp [hz]
    refine ⟨q, A2, ?_, fun r hr z => ?_, fun r hr => ?_⟩
    · rw [show m + 1 + 1 + j = (m + 1 + j) + 1 by omega, f_X4_uses_L44]
      dsimp only
      rw [if_neg (show ¬ A 0 0 ≤ _ from fun z => by rw [e] at z; have := (p_le (by omega) (by omega)).mp z; omega), ← p_succ, p_tn (by omega), p_tn (by omega)]
      simp only [if_neg hb1, if_neg hb]
      exact g1
    · rw [g2 r hr, row r hr, row r hr]
      by_cases h1 : z = i
      · subst h1
        rw [if_neg (by omega), if_pos rfl, if_pos ⟨by omega, by omega⟩]
      · by_cases h2 : i + 1 ≤ z ∧ z < c
        · rw [if_pos h2, if_neg (by omega), if_pos ⟨by omega, h2.2⟩]
        · rw [if_neg h2, if_neg h1, if_neg (by omega)]
    · rw [g3 r hr]
      show (if r = 5 then _ else (if r = 4 then _ else (if r = 3 then _ else (if r = 2 then _ else A r)))) = _
      rw [if_neg (by omega), if_neg (by omega), if_neg (by omega), if_neg (by omega)]
theorem kPm_id (K : Nat → Nat → Int32) : kPm (fun i => i) K = K := by
  funext a
  unfold kPm
  split <;> rfl
/-- what stays of the frame when cups are used -/
def uFr (K K2 A A2 : Nat → Nat → Int32) : Prop := (∀ r, 9 ≤ r → K2 r = K r) ∧ (∀ r, ¬ (r = 0 ∨ r = 2 ∨ r = 3 ∨ r = 4 ∨ r = 5) → A2 r = A r) ∧ ∀ z, 3 ≤ z → A2 0 z = A 0 z
theorem kr_use {K A : Nat → Nat → Int32} (R : KR K A) (k : Nat) (B : Nat → Nat → Int64) {v : Int32} {jh : Nat} (hjh : jh < 5) (ej : K 0 1 = Int32.ofNat jh) (hlt : Int32.ofNat jh < K 0 0) (hv : 1 ≤ v ∧ v ≤ K 7 jh) : ∃ (s : Nat → Nat) (K2 A2 : Nat → Nat → Int32), (∀ y : Nat → Nat, f_X1_takeCupsp y K v (k + 200) = some (true, (fun i => y (s i)), K2)) ∧ f_X4_uses (A, B) v (k + 200) = some (K 7 jh - v, (A2, B)) ∧ KR K2 A2 ∧ uFr K K2 A A2 := by
  obtain ⟨c, hc, e, e2⟩ := R.jc
  have ej2 : A 0 1 = Int32.ofNat jh := by rw [← ej]; exact R.1.1.2.1.symm
  have hjc : jh < c := by rw [e] at hlt; exact (p_lt (by omega) (by omega)).mp hlt
  have g := R.at hjh hlt
  have hin : jIn (K 0 0) (K 0 1) := by rw [e, ej]; exact p_jIn hc hjc
  have hb := p_nbi (i := jh) (n := 5) hjh (by decide)
  have h7 := g.2.2.2.1
  unfold f_X1_takeCupsp f_X1_takeCups f_X4_uses
  dsimp only
  rw [if_pos hin, ej, p_tn (by omega), if_neg (show ¬ v < 1 by have := hv.1; grind), if_pos hv.2, upd_same]
  have hbA : ¬ (A 0 1 < 0 ∨ 5 ≤ Int32.toNatClampNeg (A 0 1)) := by rw [ej2, p_tn (by omega)]; exact hb
  simp only [if_neg hbA, upd_same]
  simp only [ej2, p_tn (show jh < 2147483648 by omega), ← g.1.2.2.1]
  have kp : ∀ x, kS K 7 (upd (K 7) jh x) = kE K 7 jh x := fun _ => rfl
  have ap : ∀ x, kS A 4 (upd (A 4) jh x) = kE A 4 jh x := fun _ => rfl
  by_cases h0 : K 7 jh - v = 0
  · rw [if_pos h0, if_pos (by rw [h0]; decide), kp, h0]
    -- the jug goes
    obtain ⟨q, d1⟩ := l_drop k (kE K 7 jh 0) c hc e (c - 1 - jh) jh (k + 199 - (c - 1 - jh)) (fun i => i) (by omega) (fun _ _ => rfl)
    rw [show c - 1 - jh + 1 + (k + 199 - (c - 1 - jh)) = k + 200 by omega] at d1
    have ec1 : Int32.ofNat c - 1 = Int32.ofNat (c - 1) := by
      have : c - 1 + 1 = c := by omega
      rw [← this, p_succ, Nat.add_sub_cancel]
      grind
    have hst : (if (0 : Int32) < kE K 7 jh 0 0 1 then kE K 7 jh 0 0 1 else (0 : Int32)) = Int32.ofNat jh := by
      rw [show kE K 7 jh 0 0 1 = Int32.ofNat jh from ej]
      by_cases hz : (0 : Int32) < Int32.ofNat jh
      · rw [if_pos hz]
      · rw [if_neg hz]
        have := p_0le jh (by omega)
        grind
    have hdrop : f_X1_dropInHand (fun i => i) (kE K 7 jh 0) jh (k + 200) = some (sdr c jh, kE (kE (kE (kE K 7 jh 0) 0 0 (Int32.ofNat (c - 1))) 0 1 0) 0 2 0) := by
      unfold f_X1_dropInHand
      rw [hst, d1, p_bs, show kE K 7 jh 0 0 0 = Int32.ofNat c from e, ec1, if_neg (show ¬ b2i (f_X3_isOneOf (Int32.ofNat (c - 1)) 5) = 0 by
        rw [show f_X3_isOneOf (Int32.ofNat (c - 1)) 5 = true from one_iff.mpr ⟨p_0le _ (by omega), (p_lt (b := 5) (by omega) (by omega)).mpr (by omega)⟩]
        decide), p_tn (by omega)]
      have es : va_up (fun z => if jh ≤ z ∧ z + 1 < c then z + 1 else (fun i => i) z) (c - 1) jh = sdr c jh := by
        funext z
        unfold va_up sdr
        rfl
      have ek : kS (kE K 7 jh 0) 0 (upd (upd (upd (kE K 7 jh 0 0) 0 (Int32.ofNat (c - 1))) 1 0) 2 0) = kE (kE (kE (kE K 7 jh 0) 0 0 (Int32.ofNat (c - 1))) 0 1 0) 0 2 0 := by
        funext r i
        simp only [kE_at]
        unfold kS upd
        by_cases h1 : r = 0
        · subst h1
          by_cases h2 : i = 2
          · simp [h2]
          · by_cases h3 : i = 1
            · simp [h3]
            · by_cases h4 : i = 0 <;> simp [h2, h3, h4, kE_at]
        · simp [h1, kE_at]
      rw [es, ek]
    obtain ⟨q2, A2, u1, u2, u3⟩ := l_uses k B (c - 1) (by omega) (c - 1 - jh) jh (k + 199 - (c - 1 - jh)) (kE (kE A 4 jh 0) 0 0 (Int32.ofNat (c - 1))) (by omega) rfl
    rw [show c - 1 - jh + 1 + (k + 199 - (c - 1 - jh)) = k + 200 by omega] at u1
    have hA1 : kS (kS A 0 (upd (A 0) 0 (A 0 0 - 1))) 4 (upd (A 4) jh 0) = kE (kE A 4 jh 0) 0 0 (Int32.ofNat (c - 1)) := by
      rw [e2, ec1]
      funext r i
      simp only [kE_at]
      unfold kS upd
      by_cases h1 : r = 4
      · subst h1
        by_cases h2 : i = jh <;> simp [h2]
      · by_cases h2 : r = 0
        · subst h2
          by_cases h3 : i = 0 <;> simp [h3]
        · simp [h1, h2]
    have hA2 : kS A2 0 (upd (upd (A2 0) 1 0) 2 0) = kE (kE A2 0 1 0) 0 2 0 := kE2 A2 0 0
    refine ⟨sdr c jh, kPm (sdr c jh) (kE (kE (kE (kE K 7 jh 0) 0 0 (Int32.ofNat (c - 1))) 0 1 0) 0 2 0), kE (kE A2 0 1 0) 0 2 0, fun y => ?_, ?_, ?_, ?_⟩
    · rw [hdrop, p_bs, p_bs]
      dsimp only
      rw [if_pos (sdr_ok ⟨c, by omega⟩ ⟨jh, hjh⟩ hjc)]
    · rw [hA1, u1, p_bs]
      dsimp only
      rw [hA2]
    · have rowK : ∀ r, (5 ≤ r ∧ r ≤ 8) → ∀ i, kPm (sdr c jh) (kE (kE (kE (kE K 7 jh 0) 0 0 (Int32.ofNat (c - 1))) 0 1 0) 0 2 0) r i = if r = 7 ∧ sdr c jh i = jh then 0 else K r (sdr c jh i) := fun r hr i => by
        unfold kPm
        rw [if_pos hr]
        simp only [kE_at]
        rw [if_neg (by omega), if_neg (by omega), if_neg (by omega)]
      have rowK' : ∀ r, ¬ (5 ≤ r ∧ r ≤ 8) → kPm (sdr c jh) (kE (kE (kE (kE K 7 jh 0) 0 0 (Int32.ofNat (c - 1))) 0 1 0) 0 2 0) r = kE (kE (kE (kE K 7 jh 0) 0 0 (Int32.ofNat (c - 1))) 0 1 0) 0 2 0 r := fun r hr => by
        unfold kPm
        rw [if_neg hr]
      have hs5 : ∀ i, i < 5 → sdr c jh i < 5 := fun i hi => by
        unfold sdr
        split
        · exact hjh
        · split <;> omega
      have hsl : ∀ i, i < c - 1 → sdr c jh i = (if jh ≤ i then i + 1 else i) := fun i hi => by
        unfold sdr
        rw [if_neg (by omega)]
        by_cases h1 : jh ≤ i
        · rw [if_pos ⟨h1, by omega⟩, if_pos h1]
        · rw [if_neg (fun z => h1 z.1), if_neg h1]
      have k0 : ∀ r i, ¬ (5 ≤ r ∧ r ≤ 8) → ¬ (r = 0 ∧ i < 3) → kPm (sdr c jh) (kE (kE (kE (kE K 7 jh 0) 0 0 (Int32.ofNat (c - 1))) 0 1 0) 0 2 0) r i = K r i := fun r i hr hi => by
        rw [rowK' r hr]
        simp only [kE_at]
        rw [if_neg (by omega), if_neg (by omega), if_neg (by omega), if_neg (by omega)]
      have a0 : ∀ r i, ¬ (r = 2 ∨ r = 3 ∨ r = 4 ∨ r = 5) → ¬ (r = 0 ∧ i < 3) → kE (kE A2 0 1 0) 0 2 0 r i = A r i := fun r i hr hi => by
        simp only [kE_at]
        rw [if_neg (by omega), if_neg (by omega), u3 r hr]
        simp only [kE_at]
        rw [if_neg (by omega), if_neg (by omega)]
      have a0' : ∀ r, (r = 2 ∨ r = 3 ∨ r = 4 ∨ r = 5) → ∀ i, i < c - 1 → kE (kE A2 0 1 0) 0 2 0 r i = A r (if jh ≤ i then i + 1 else i) := fun r hr i hi => by
        simp only [kE_at]
        rw [if_neg (by omega), if_neg (by omega), u2 r hr]
        simp only [kE_at]
        by_cases h1 : jh ≤ i
        · rw [if_pos ⟨h1, hi⟩, if_pos h1, if_neg (by omega), if_neg (by omega)]
        · rw [if_neg (fun z => h1 z.1), if_neg h1, if_neg (by omega), if_neg (by omega)]
      have z00 : kPm (sdr c jh) (kE (kE (kE (kE K 7 jh 0) 0 0 (Int32.ofNat (c - 1))) 0 1 0) 0 2 0) 0 0 = Int32.ofNat (c - 1) := by
        rw [rowK' 0 (by omega)]
        rfl
      have z01 : kPm (sdr c jh) (kE (kE (kE (kE K 7 jh 0) 0 0 (Int32.ofNat (c - 1))) 0 1 0) 0 2 0) 0 1 = 0 := by
        rw [rowK' 0 (by omega)]
        rfl
      have z02 : kPm (sdr c jh) (kE (kE (kE (kE K 7 jh 0) 0 0 (Int32.ofNat (c - 1))) 0 1 0) 0 2 0) 0 2 = 0 := by
        rw [rowK' 0 (by omega)]
        rfl
      have y00 : kE (kE A2 0 1 0) 0 2 0 0 0 = Int32.ofNat (c - 1) := by
        simp only [kE_at]
        rw [if_neg (by omega), if_neg (by omega), u3 0 (by omega)]
        rfl
      obtain ⟨⟨r1, r2, r3, r4, r5⟩, r6, r7, r8⟩ := R.1
      obtain ⟨t1, t2, t3, t4, t5⟩ := R.2
      refine ⟨⟨⟨?_, ?_, ?_, ?_, ?_⟩, fun i hi => ?_, fun i hi => ?_, fun i hi hl => ?_⟩, ⟨⟨?_, ?_, ?_, ?_, ?_⟩, fun i hi => ?_, fun i hi => ?_, fun i hi hl => ?_, fun i hi hl => ?_⟩⟩
      · rw [z00]; exact y00.symm
      · rw [z01]; rfl
      · rw [z02]; rfl
      · rw [k0 0 3 (by omega) (by omega), r4]; exact (a0 0 4 (by omega) (by omega)).symm
      · rw [k0 0 4 (by omega) (by omega), r5]; exact (a0 0 3 (by omega) (by omega)).symm
      · rw [k0 1 i (by omega) (by omega), k0 2 i (by omega) (by omega)]
        exact ⟨(r6 i hi).1.trans (a0 7 i (by omega) (by omega)).symm, (r6 i hi).2.trans (a0 8 i (by omega) (by omega)).symm⟩
      · rw [k0 3 i (by omega) (by omega), k0 4 i (by omega) (by omega)]
        exact ⟨(r7 i hi).1.trans (a0 6 i (by omega) (by omega)).symm, (r7 i hi).2.trans (a0 9 i (by omega) (by omega)).symm⟩
      · rw [z00] at hl
        have hl2 := (p_lt (by omega) (by omega)).mp hl
        have hne : ¬ sdr c jh i = jh := by
          rw [hsl i hl2]
          split <;> omega
        have hlt2 : sdr c jh i < c := by
          rw [hsl i hl2]
          split <;> omega
        have q8 := r8 (sdr c jh i) (hs5 i hi) (by rw [e]; exact (p_lt (by omega) (by omega)).mpr hlt2)
        rw [rowK 5 (by omega), rowK 6 (by omega), rowK 7 (by omega), rowK 8 (by omega), if_neg (by omega), if_neg (by omega), if_neg (fun z => hne z.2), if_neg (by omega)]
        show _ = kE (kE A2 0 1 0) 0 2 0 2 i ∧ _ = kE (kE A2 0 1 0) 0 2 0 3 i ∧ _ = kE (kE A2 0 1 0) 0 2 0 4 i ∧ _ = kE (kE A2 0 1 0) 0 2 0 5 i
        rw [a0' 2 (by omega) i hl2, a0' 3 (by omega) i hl2, a0' 4 (by omega) i hl2, a0' 5 (by omega) i hl2, ← hsl i hl2]
        exact q8
      · rw [z00]
        exact ⟨p_0le _ (by omega), (p_le (b := 5) (by omega) (by omega)).mpr (by omega)⟩
      · rw [z00, z01]
        refine ⟨by decide, ?_⟩
        by_cases hz : c - 1 = 0
        · right
          rw [hz]
          exact ⟨rfl, rfl⟩
        · left
          exact (p_lt (a := 0) (by omega) (by omega)).mpr (by omega)
      · rw [z02]; decide
      · rw [k0 0 3 (by omega) (by omega)]; exact t1.2.2.2.1
      · rw [k0 0 4 (by omega) (by omega)]; exact t1.2.2.2.2
      · rw [k0 1 i (by omega) (by omega), k0 2 i (by omega) (by omega)]; exact t2 i hi
      · rw [k0 3 i (by omega) (by omega), k0 4 i (by omega) (by omega)]; exact t3 i hi
      · rw [z00] at hl
        have hl2 := (p_lt (by omega) (by omega)).mp hl
        have hlt2 : sdr c jh i < c := by
          rw [hsl i hl2]
          split <;> omega
        have q4 := t4 (sdr c jh i) (hs5 i hi) (by rw [e]; exact (p_lt (by omega) (by omega)).mpr hlt2)
        rw [rowK 5 (by omega), rowK 6 (by omega), rowK 7 (by omega), rowK 8 (by omega), if_neg (by omega), if_neg (by omega), if_neg (show ¬ (8 = 7 ∧ _) by omega)]
        refine ⟨q4.1, q4.2.1, ?_, q4.2.2.2⟩
        split
        · decide
        · exact q4.2.2.1
      · rw [z00] at hl
        have hl2 := (p_lt (by omega) (by omega)).mp hl
        have hne : ¬ sdr c jh i = jh := by
          rw [hsl i hl2]
          split <;> omega
        have hlt2 : sdr c jh i < c := by
          rw [hsl i hl2]
          split <;> omega
        rw [rowK 7 (by omega), if_neg (fun z => hne z.2)]
        exact t5 (sdr c jh i) (hs5 i hi) (by rw [e]; exact (p_lt (by omega) (by omega)).mpr hlt2)
    · refine ⟨fun r hr => ?_, fun r hr => ?_, fun z hz => ?_⟩
      · funext i
        unfold kPm
        rw [if_neg (by omega)]
        simp only [kE_at]
        rw [if_neg (by omega), if_neg (by omega), if_neg (by omega), if_neg (by omega)]
      · funext i
        simp only [kE_at]
        rw [if_neg (by omega), if_neg (by omega), u3 r (by omega)]
        simp only [kE_at]
        rw [if_neg (by omega), if_neg (by omega)]
      · simp only [kE_at]
        rw [if_neg (by omega), if_neg (by omega), u3 0 (by omega)]
        simp only [kE_at]
        rw [if_neg (by omega), if_neg (by omega)]
  · have hpos : 1 ≤ K 7 jh - v := by have := hv.1; have := hv.2; have := h7.2; grind
    rw [if_neg h0, if_neg (by grind), kp, ap]
    refine ⟨fun i => i, kE K 7 jh (K 7 jh - v), kE A 4 jh (K 7 jh - v), fun y => ?_, rfl, R.uCups jh _ ⟨hpos, by have := hv.1; have := h7.2; grind⟩, ?_, ?_, ?_⟩
    · rw [p_bs]
      dsimp only
      rw [if_pos (by decide), kPm_id]
    · intro r hr
      show (if r = 7 then _ else K r) = _
      rw [if_neg (by omega)]
    · intro r hr
      show (if r = 4 then _ else A r) = _
      rw [if_neg (by omega)]
    · intro z hz
      rw [kE_at, if_neg (by omega)]
