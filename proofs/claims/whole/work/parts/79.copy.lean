/-! use; kitchens are copied -/
def O2y (a : Option (Int32 × (Nat → Nat → Nat) × ST)) (b : Option (Int32 × ST)) : Prop := ∃ r y S M, a = some (r, y, S) ∧ b = some (r, M) ∧ Rel S M
theorem O2y.of {S : ST} {r0 : Int32} {y : Nat → Nat → Nat} {b : Option (Int32 × ST)} (h : O2 (some ((f_X3_refuse S r0).1, (f_X3_refuse S r0).2)) b) : O2y (some ((f_X3_refuse S r0).1, y, (f_X3_refuse S r0).2)) b := by
  obtain ⟨r, S2, M2, h1, h2, h3⟩ := h
  have e1 : (f_X3_refuse S r0).1 = r := congrArg Prod.fst (Option.some.inj h1)
  have e2 : (f_X3_refuse S r0).2 = S2 := congrArg Prod.snd (Option.some.inj h1)
  exact ⟨r, y, S2, M2, by rw [e1, e2], h2, h3⟩
theorem o_use {S M : ST} (R : Rel S M) (k : Nat) (y : Nat → Nat → Nat) (p0 : Int32) : O2y (f_X3_use y S p0 (k + 200)) (f_X4_use M p0 (k + 200)) := by
  unfold f_X3_use f_X4_use
  by_cases hj : jIn (S.1 0 0) (S.1 0 1)
  · rw [if_pos hj, if_neg (R.in0.mp hj)]
    have H := R.hm hj
    rw [if_neg H.nb, H.2.2.2.1, m_bound]
    have g := R.at hj
    obtain ⟨jh, hjh, ej⟩ := p_ix (n := 5) (by decide) g.2.1.1 g.2.1.2
    have ejj : jj S = jh := by unfold jj; rw [ej, p_tn (by omega)]
    have e7 : S.1 7 (Int32.toNatClampNeg (S.1 0 1)) = S.1 7 jh := by rw [ej, p_tn (by omega)]
    rw [ejj]
    by_cases h1 : 1 ≤ p0
    · rw [if_pos h1, kR0]
      by_cases h2 : p0 ≤ S.1 7 jh
      · rw [if_pos (out_0.mpr ⟨h1, h2⟩)]
        obtain ⟨A, B⟩ := M
        obtain ⟨s, K2, A2, a1, a2, a3, a4, a5, a6⟩ := kr_use R.kr k B hjh ej (by rw [← ej]; have := hj.2.1; grind) ⟨h1, h2⟩
        rw [a1, p_bs, if_neg (show ¬ b2i true = 0 by decide), a2, p_bs, e7, kP_same a4]
        refine ⟨_, _, _, _, rfl, rfl, R.now a3.1 a3.2 (fun r h3 _ _ => a4 r (by omega)) ?_⟩
        dsimp only
        rw [a5 1 (by omega), a5 10 (by omega), a5 14 (by omega), a5 15 (by omega), a6 5 (by omega), a6 8 (by omega), a6 11 (by omega)]
        exact ⟨rfl, rfl, fun _ _ => rfl, rfl, rfl, rfl, rfl⟩
      · have ho : f_X3_refusalOutside p0 1 (S.1 7 jh) = -6 := by
          unfold f_X3_refusalOutside
          rw [if_pos h1, if_neg h2]
        rw [ho, if_neg (by decide)]
        have ht : f_X1_takeCupsp (y 0) S.1 p0 (k + 200) = some (false, (fun i => y 0 i), S.1) := by
          unfold f_X1_takeCupsp f_X1_takeCups
          rw [if_pos hj, if_neg (show ¬ p0 < 1 by grind), e7, if_neg h2, p_bs]
          dsimp only
          rw [if_pos (by decide), kPm_id]
        rw [ht, p_bs, if_pos (show b2i false = 0 by decide)]
        dsimp only
        rw [kP_same (fun _ _ => rfl)]
        exact O2y.of (ref_no R (Or.inr (Or.inr (Or.inr (Or.inr rfl)))) k)
    · have ho : f_X3_refusalOutside p0 1 (S.1 7 jh) = -4 := by
        unfold f_X3_refusalOutside
        rw [if_neg h1]
      rw [if_neg h1, ho, if_neg (by decide)]
      exact O2y.of (ref_no R (Or.inr (Or.inr (Or.inr (Or.inl rfl)))) k)
  · rw [if_neg hj, if_pos (Classical.not_not.mp (fun z => hj (R.in0.mpr z)))]
    exact O2y.of (ref_no R (Or.inr (Or.inr (Or.inl rfl))) k)
theorem l_crow (k : Nat) (N : Nat) (hN : N ≤ 8) (F : Nat → Int32) : ∀ (m i j : Nat) (G : Nat → Int32), i + m = N → ∃ q, f_X1_copyRow_L2 N F (k + 200) (m + 1 + j) (Int32.ofNat i) G = some (q, fun z => if i ≤ z ∧ z < N then F z else G z) := by
  intro m
  induction m with
  | zero =>
    intro i j G h
    obtain rfl : i = N := by omega
    refine ⟨Int32.ofNat i, ?_⟩
    rw [show 0 + 1 + j = j + 1 by omega, f_X1_copyRow_L2, if_pos (by grind)]
    have : (fun z => if i ≤ z ∧ z < i then F z else G z) = G := by
      funext z
      rw [if_neg (by omega)]
    rw [this]
  | succ m ih =>
    intro i j G h
    have hb := p_nbi (i := i) (n := N) (by omega) (by omega)
    obtain ⟨q, g⟩ := ih (i + 1) j (upd G i (F i)) (by omega)
    refine ⟨q, ?_⟩
    rw [show m + 1 + 1 + j = (m + 1 + j) + 1 by omega, f_X1_copyRow_L2, if_neg (fun z => by have := (p_le (by omega) (by omega)).mp z; omega), p_tn (by omega), if_neg hb, if_neg hb, ← p_succ, g]
    congr 2
    funext z
    unfold upd
    by_cases h1 : z = i
    · subst h1
      rw [if_neg (by omega), if_pos rfl, if_pos ⟨by omega, by omega⟩]
    · by_cases h2 : i + 1 ≤ z ∧ z < N
      · rw [if_pos h2, if_pos ⟨by omega, h2.2⟩]
      · rw [if_neg h2, if_neg h1, if_neg (by omega)]
theorem c_crow (k : Nat) (N : Nat) (hN : N ≤ 8) (F G : Nat → Int32) : f_X1_copyRow F G N (k + 200) = some (fun z => if z < N then F z else G z) := by
  obtain ⟨q, h⟩ := l_crow k N hN F N 0 (k + 199 - N) G (by omega)
  rw [show N + 1 + (k + 199 - N) = k + 200 by omega] at h
  have h' : f_X1_copyRow_L2 N F (k + 200) (k + 200) 0 G = _ := h
  unfold f_X1_copyRow
  rw [h', p_bs]
  congr 1
  funext z
  show (if 0 ≤ z ∧ z < N then F z else G z) = (if z < N then F z else G z)
  by_cases h1 : z < N
  · rw [if_pos h1, if_pos ⟨by omega, h1⟩]
  · rw [if_neg h1, if_neg (fun t => h1 t.2)]
theorem l_copy (k : Nat) (K2 : Nat → Nat → Int32) (c : Nat) (hc : c ≤ 5) (e : K2 0 0 = Int32.ofNat c) : ∀ (m i j : Nat) (K : Nat → Nat → Int32), i + m = 5 → ∃ q Kr, f_X1_copyFrom_L2 K2 (k + 200) (m + 1 + j) (Int32.ofNat i) K = some (q, Kr) ∧ (∀ r, (5 ≤ r ∧ r ≤ 8) → ∀ z, Kr r z = if i ≤ z ∧ z < c then K2 r z else K r z) ∧ ∀ r, ¬ (5 ≤ r ∧ r ≤ 8) → Kr r = K r := by
  intro m
  induction m with
  | zero =>
    intro i j K h
    obtain rfl : i = 5 := by omega
    refine ⟨Int32.ofNat 5, K, ?_, fun r hr z => by rw [if_neg (by omega)], fun _ _ => rfl⟩
    rw [show 0 + 1 + j = j + 1 by omega, f_X1_copyFrom_L2, if_pos (by decide)]
  | succ m ih =>
    intro i j K h
    have hb := p_nbi (i := i) (n := 5) (by omega) (by decide)
    have hl : ¬ (5 : Int32) ≤ Int32.ofNat i := fun z => by have := (p_le (a := 5) (by omega) (by omega)).mp z; omega
    by_cases hi : i < c
    · obtain ⟨q, Kr, g1, g2, g3⟩ := ih (i + 1) j (kE (kE (kE (kE K 5 i (K2 5 i)) 6 i (K2 6 i)) 7 i (K2 7 i)) 8 i (K2 8 i)) (by omega)
      have row : ∀ r, (5 ≤ r ∧ r ≤ 8) → ∀ z, kE (kE (kE (kE K 5 i (K2 5 i)) 6 i (K2 6 i)) 7 i (K2 7 i)) 8 i (K2 8 i) r z = if z = i then K2 r i else K r z := by
        intro r hr z
        have : r = 5 ∨ r = 6 ∨ r = 7 ∨ r = 8 := by omega
        simp only [kE_at]
        rcases this with rfl | rfl | rfl | rfl <;> by_cases hz : z = i <;> simp [hz]
      refine ⟨q, Kr, ?_, fun r hr z => ?_, fun r hr => ?_⟩
      · rw [show m + 1 + 1 + j = (m + 1 + j) + 1 by omega, f_X1_copyFrom_L2, if_neg hl, p_tn (by omega), if_neg hb, if_pos (show jIn (K2 0 0) (Int32.ofNat i) by rw [e]; exact p_jIn hc hi), ← p_succ]
        exact g1
      · rw [g2 r hr, row r hr]
        by_cases h1 : z = i
        · subst h1
          rw [if_neg (by omega), if_pos rfl, if_pos ⟨by omega, by omega⟩]
        · by_cases h2 : i + 1 ≤ z ∧ z < c
          · rw [if_pos h2, if_pos ⟨by omega, h2.2⟩]
          · rw [if_neg h2, if_neg h1, if_neg (by omega)]
      · rw [g3 r hr]
        show (if r = 8 then _ else (if r = 7 then _ else (if r = 6 then _ else (if r = 5 then _ else K r)))) = _
        rw [if_neg (by omega), if_neg (by omega), if_neg (by omega), if_neg (by omega)]
    · obtain ⟨q, Kr, g1, g2, g3⟩ := ih (i + 1) j K (by omega)
      refine ⟨q, Kr, ?_, fun r hr z => ?_, g3⟩
      · rw [show m + 1 + 1 + j = (m + 1 + j) + 1 by omega, f_X1_copyFrom_L2, if_neg hl, p_tn (by omega), if_neg hb, if_neg (show ¬ jIn (K2 0 0) (Int32.ofNat i) from fun z => by
          rw [e] at z
          have := z.2.1
          have h5 : Int32.ofNat i < Int32.ofNat c := by grind
          exact hi ((p_lt (by omega) (by omega)).mp h5)), ← p_succ]
        exact g1
      · rw [g2 r hr, if_neg (by omega), if_neg (by omega)]
/-- a kitchen is copied: what is looked at is the other's -/
def cpd (K2 Kr : Nat → Nat → Int32) : Prop := (∀ i, i < 5 → Kr 0 i = K2 0 i) ∧ (∀ i, i < 8 → Kr 1 i = K2 1 i ∧ Kr 2 i = K2 2 i) ∧ (∀ i, i < 4 → Kr 3 i = K2 3 i ∧ Kr 4 i = K2 4 i) ∧ ∀ i, i < 5 → Int32.ofNat i < K2 0 0 → Kr 5 i = K2 5 i ∧ Kr 6 i = K2 6 i ∧ Kr 7 i = K2 7 i ∧ Kr 8 i = K2 8 i
theorem c_copy (k : Nat) (K K2 : Nat → Nat → Int32) (h : 0 ≤ K2 0 0 ∧ K2 0 0 ≤ 5) : ∃ Kr, f_X1_copyFrom K K2 (k + 200) = some Kr ∧ cpd K2 Kr ∧ ∀ r, 9 ≤ r → Kr r = K r := by
  obtain ⟨c, hc, e⟩ := p_ix (n := 6) (by decide) h.1 (show K2 0 0 < 6 by have := h.2; grind)
  obtain ⟨q, Kr, g1, g2, g3⟩ := l_copy k K2 c (by omega) e 5 0 (k + 194) K (by decide)
  rw [show 5 + 1 + (k + 194) = k + 200 by omega] at g1
  have g1' : f_X1_copyFrom_L2 K2 (k + 200) (k + 200) 0 K = _ := g1
  unfold f_X1_copyFrom
  rw [g1', p_bs]
  dsimp only
  rw [c_crow k 8 (by decide), p_bs, c_crow k 8 (by decide), p_bs, c_crow k 4 (by decide), p_bs, c_crow k 4 (by decide), p_bs]
  refine ⟨_, rfl, ⟨fun i hi => ?_, fun i hi => ⟨?_, ?_⟩, fun i hi => ⟨?_, ?_⟩, fun i hi hl => ?_⟩, fun r hr => ?_⟩
  · rcases p_i5 hi with rfl | rfl | rfl | rfl | rfl <;> rfl
  · show (if i < 8 then K2 1 i else _) = _
    rw [if_pos hi]
  · show (if i < 8 then K2 2 i else _) = _
    rw [if_pos hi]
  · show (if i < 4 then K2 3 i else _) = _
    rw [if_pos hi]
  · show (if i < 4 then K2 4 i else _) = _
    rw [if_pos hi]
  · have hi2 : i < c := by rw [e] at hl; exact (p_lt (by omega) (by omega)).mp hl
    refine ⟨?_, ?_, ?_, ?_⟩
    · exact (g2 5 (by omega) i).trans (by rw [if_pos ⟨by omega, hi2⟩])
    · exact (g2 6 (by omega) i).trans (by rw [if_pos ⟨by omega, hi2⟩])
    · exact (g2 7 (by omega) i).trans (by rw [if_pos ⟨by omega, hi2⟩])
    · exact (g2 8 (by omega) i).trans (by rw [if_pos ⟨by omega, hi2⟩])
  · show (if r = 4 then _ else (if r = 3 then _ else (if r = 2 then _ else (if r = 1 then _ else (if r = 0 then _ else Kr r))))) = _
    rw [if_neg (by omega), if_neg (by omega), if_neg (by omega), if_neg (by omega), if_neg (by omega)]
    exact g3 r (by omega)
theorem cpd.kr {K2 Kr L : Nat → Nat → Int32} (h : cpd K2 Kr) (R : RKt K2 L) (G : GK K2) : RKt Kr L ∧ GK Kr := by
  obtain ⟨h1, h2, h3, h4⟩ := h
  have e0 := h1 0 (by decide)
  have e1 := h1 1 (by decide)
  have e2 := h1 2 (by decide)
  have e3 := h1 3 (by decide)
  have e4 := h1 4 (by decide)
  refine ⟨⟨?_, fun i hi => ?_, fun i hi => ?_, fun i hi hl => ?_⟩, ⟨?_, fun i hi => ?_, fun i hi => ?_, fun i hi hl => ?_, fun i hi hl => ?_⟩⟩
  · rw [e0, e1, e2, e3, e4]; exact R.1
  · rw [(h2 i hi).1, (h2 i hi).2]; exact R.2.1 i hi
  · rw [(h3 i hi).1, (h3 i hi).2]; exact R.2.2.1 i hi
  · rw [e0] at hl
    have := h4 i hi hl
    rw [this.1, this.2.1, this.2.2.1, this.2.2.2]
    exact R.2.2.2 i hi hl
  · rw [e0, e1, e2, e3, e4]; exact G.1
  · rw [(h2 i hi).1, (h2 i hi).2]; exact G.2.1 i hi
  · rw [(h3 i hi).1, (h3 i hi).2]; exact G.2.2.1 i hi
  · rw [e0] at hl
    have := h4 i hi hl
    rw [this.1, this.2.1, this.2.2.1, this.2.2.2]
    exact G.2.2.2.1 i hi hl
  · rw [e0] at hl
    have := h4 i hi hl
    rw [this.2.2.1]
    exact G.2.2.2.2 i hi hl
/-! the reference keeps its rows, and puts them back -/
theorem l_pk0 (k o : Nat) (ho : o ≤ 100) (B : Nat → Nat → Int64) : ∀ (m x j : Nat) (A : Nat → Nat → Int32), x + m = 5 → A 0 9 = 1 → A 0 10 = Int32.ofNat (o + x) → ∃ q A2, f_X4_passes_0_L2 (k + 200) (m + 1 + j) (Int32.ofNat x) (A, B) = some (q, (A2, B)) ∧ (∀ z, A2 14 z = if o + x ≤ z ∧ z < o + 5 then A 2 (z - o) else A 14 z) ∧ A2 0 10 = Int32.ofNat (o + 5) ∧ (∀ z, z ≠ 10 → A2 0 z = A 0 z) ∧ ∀ r, r ≠ 0 → r ≠ 14 → A2 r = A r := by
  intro m
  induction m with
  | zero =>
    intro x j A h e9 e10
    obtain rfl : x = 5 := by omega
    refine ⟨Int32.ofNat 5, A, ?_, fun z => by rw [if_neg (by omega)], e10, fun _ _ => rfl, fun _ _ _ => rfl⟩
    rw [show 0 + 1 + j = j + 1 by omega, f_X4_passes_0_L2, if_pos (by decide)]
  | succ m ih =>
    intro x j A h e9 e10
    have hb := p_nbi (i := x) (n := 5) (by omega) (by decide)
    have hb2 := p_nbi (i := o + x) (n := 120) (by omega) (by decide)
    have hl : ¬ (5 : Int32) ≤ Int32.ofNat x := fun z => by have := (p_le (a := 5) (by omega) (by omega)).mp z; omega
    have h9 : ¬ A 0 9 = 0 := by rw [e9]; decide
    obtain ⟨q, A2, g1, g2, g3, g4, g5⟩ := ih (x + 1) j (kE (kE A 0 10 (Int32.ofNat (o + (x + 1)))) 14 (o + x) (A 2 x)) (by omega) e9 rfl
    refine ⟨q, A2, ?_, fun z => ?_, g3, fun z hz => ?_, fun r hr hr2 => ?_⟩
    · have hb2A : ¬ (A 0 10 < 0 ∨ 120 ≤ Int32.toNatClampNeg (A 0 10)) := by rw [e10, p_tn (by omega)]; exact hb2
      rw [show m + 1 + 1 + j = (m + 1 + j) + 1 by omega, f_X4_passes_0_L2, if_neg hl]
      dsimp only
      rw [if_neg h9, p_tn (by omega), if_neg hb, if_neg hb2A, e10, p_tn (by omega), ← p_succ, ← p_succ]
      exact g1
    · have h14 : ∀ z, kE (kE A 0 10 (Int32.ofNat (o + (x + 1)))) 14 (o + x) (A 2 x) 14 z = if z = o + x then A 2 x else A 14 z := fun z => by
        rw [kE_at]
        by_cases h : z = o + x
        · rw [if_pos ⟨rfl, h⟩, if_pos h]
        · rw [if_neg (fun t => h t.2), if_neg h, kE_at, if_neg (by omega)]
      have hrow : ∀ z, kE (kE A 0 10 (Int32.ofNat (o + (x + 1)))) 14 (o + x) (A 2 x) 2 z = A 2 z := fun z => by
        rw [kE_at, if_neg (by omega), kE_at, if_neg (by omega)]
      rw [g2 z, h14, hrow]
      by_cases h1 : z = o + x
      · subst h1
        rw [if_neg (by omega), if_pos rfl, if_pos ⟨by omega, by omega⟩, Nat.add_sub_cancel_left]
      · by_cases h2 : o + (x + 1) ≤ z ∧ z < o + 5
        · rw [if_pos h2, if_pos ⟨by omega, h2.2⟩]
        · rw [if_neg h2, if_neg h1, if_neg (by omega)]
    · rw [g4 z hz, kE_at, if_neg (by omega), kE_at, if_neg (by omega)]
    · rw [g5 r hr hr2]
      show (if r = 14 then _ else (if r = 0 then _ else A r)) = _
      rw [if_neg hr2, if_neg hr]
theorem l_pr0 (k o : Nat) (ho : o ≤ 100) (B : Nat → Nat → Int64) : ∀ (m x j : Nat) (A : Nat → Nat → Int32), x + m = 5 → A 0 9 = 0 → A 0 10 = Int32.ofNat (o + x) → ∃ q A2, f_X4_passes_0_L2 (k + 200) (m + 1 + j) (Int32.ofNat x) (A, B) = some (q, (A2, B)) ∧ (∀ z, A2 2 z = if x ≤ z ∧ z < 5 then A 14 (o + z) else A 2 z) ∧ A2 0 10 = Int32.ofNat (o + 5) ∧ (∀ z, z ≠ 10 → A2 0 z = A 0 z) ∧ ∀ r, r ≠ 0 → r ≠ 2 → A2 r = A r := by
  intro m
  induction m with
  | zero =>
    intro x j A h e9 e10
    obtain rfl : x = 5 := by omega
    refine ⟨Int32.ofNat 5, A, ?_, fun z => by rw [if_neg (by omega)], e10, fun _ _ => rfl, fun _ _ _ => rfl⟩
    rw [show 0 + 1 + j = j + 1 by omega, f_X4_passes_0_L2, if_pos (by decide)]
  | succ m ih =>
    intro x j A h e9 e10
    have hb := p_nbi (i := x) (n := 5) (by omega) (by decide)
    have hb2 := p_nbi (i := o + x) (n := 120) (by omega) (by decide)
    have hl : ¬ (5 : Int32) ≤ Int32.ofNat x := fun z => by have := (p_le (a := 5) (by omega) (by omega)).mp z; omega
    obtain ⟨q, A2, g1, g2, g3, g4, g5⟩ := ih (x + 1) j (kE (kE A 0 10 (Int32.ofNat (o + (x + 1)))) 2 x (A 14 (o + x))) (by omega) e9 rfl
    refine ⟨q, A2, ?_, fun z => ?_, g3, fun z hz => ?_, fun r hr hr2 => ?_⟩
    · have hb2A : ¬ (A 0 10 < 0 ∨ 120 ≤ Int32.toNatClampNeg (A 0 10)) := by rw [e10, p_tn (by omega)]; exact hb2
      rw [show m + 1 + 1 + j = (m + 1 + j) + 1 by omega, f_X4_passes_0_L2, if_neg hl]
      dsimp only
      rw [if_pos e9, if_neg hb2A, p_tn (by omega), if_neg hb, e10, p_tn (by omega), ← p_succ, ← p_succ]
      exact g1
    · have hrow : ∀ z, kE (kE A 0 10 (Int32.ofNat (o + (x + 1)))) 2 x (A 14 (o + x)) 2 z = if z = x then A 14 (o + x) else A 2 z := fun z => by
        rw [kE_at]
        by_cases h : z = x
        · rw [if_pos ⟨rfl, h⟩, if_pos h]
        · rw [if_neg (fun t => h t.2), if_neg h, kE_at, if_neg (by omega)]
      have h14 : ∀ z, kE (kE A 0 10 (Int32.ofNat (o + (x + 1)))) 2 x (A 14 (o + x)) 14 z = A 14 z := fun z => by
        rw [kE_at, if_neg (by omega), kE_at, if_neg (by omega)]
      rw [g2 z, h14, hrow]
      by_cases h1 : z = x
      · subst h1
        rw [if_neg (by omega), if_pos rfl, if_pos ⟨by omega, by omega⟩]
      · by_cases h2 : x + 1 ≤ z ∧ z < 5
        · rw [if_pos h2, if_pos ⟨by omega, h2.2⟩]
        · rw [if_neg h2, if_neg h1, if_neg (by omega)]
    · rw [g4 z hz, kE_at, if_neg (by omega), kE_at, if_neg (by omega)]
    · rw [g5 r hr hr2]
      show (if r = 2 then _ else (if r = 0 then _ else A r)) = _
      rw [if_neg hr2, if_neg hr]
theorem pk0 (k o : Nat) (ho : o ≤ 100) (A : Nat → Nat → Int32) (B : Nat → Nat → Int64) (e9 : A 0 9 = 1) (e10 : A 0 10 = Int32.ofNat o) : ∃ A2, f_X4_passes_0 (A, B) (k + 200) = some (A2, B) ∧ (∀ z, A2 14 z = if o ≤ z ∧ z < o + 5 then A 2 (z - o) else A 14 z) ∧ A2 0 10 = Int32.ofNat (o + 5) ∧ (∀ z, z ≠ 10 → A2 0 z = A 0 z) ∧ ∀ r, r ≠ 0 → r ≠ 14 → A2 r = A r := by
  obtain ⟨q, A2, g1, g2⟩ := l_pk0 k o ho B 5 0 (k + 194) A (by decide) e9 e10
  rw [show 5 + 1 + (k + 194) = k + 200 by omega] at g1
  have g1' : f_X4_passes_0_L2 (k + 200) (k + 200) 0 (A, B) = _ := g1
  refine ⟨A2, ?_, g2⟩
  unfold f_X4_passes_0
  rw [g1', p_bs]
theorem pr0 (k o : Nat) (ho : o ≤ 100) (A : Nat → Nat → Int32) (B : Nat → Nat → Int64) (e9 : A 0 9 = 0) (e10 : A 0 10 = Int32.ofNat o) : ∃ A2, f_X4_passes_0 (A, B) (k + 200) = some (A2, B) ∧ (∀ z, A2 2 z = if z < 5 then A 14 (o + z) else A 2 z) ∧ A2 0 10 = Int32.ofNat (o + 5) ∧ (∀ z, z ≠ 10 → A2 0 z = A 0 z) ∧ ∀ r, r ≠ 0 → r ≠ 2 → A2 r = A r := by
  obtain ⟨q, A2, g1, g2, g3⟩ := l_pr0 k o ho B 5 0 (k + 194) A (by decide) e9 e10
  rw [show 5 + 1 + (k + 194) = k + 200 by omega] at g1
  have g1' : f_X4_passes_0_L2 (k + 200) (k + 200) 0 (A, B) = _ := g1
  refine ⟨A2, ?_, fun z => ?_, g3⟩
  · unfold f_X4_passes_0
    rw [g1', p_bs]
  · rw [g2 z]
    by_cases h : z < 5
    · rw [if_pos h, if_pos ⟨by omega, h⟩]
    · rw [if_neg h, if_neg (by omega)]
theorem l_pk1 (k o : Nat) (ho : o ≤ 100) (B : Nat → Nat → Int64) : ∀ (m x j : Nat) (A : Nat → Nat → Int32), x + m = 5 → A 0 9 = 1 → A 0 10 = Int32.ofNat (o + x) → ∃ q A2, f_X4_passes_1_L2 (k + 200) (m + 1 + j) (Int32.ofNat x) (A, B) = some (q, (A2, B)) ∧ (∀ z, A2 14 z = if o + x ≤ z ∧ z < o + 5 then A 3 (z - o) else A 14 z) ∧ A2 0 10 = Int32.ofNat (o + 5) ∧ (∀ z, z ≠ 10 → A2 0 z = A 0 z) ∧ ∀ r, r ≠ 0 → r ≠ 14 → A2 r = A r := by
  intro m
  induction m with
  | zero =>
    intro x j A h e9 e10
    obtain rfl : x = 5 := by omega
    refine ⟨Int32.ofNat 5, A, ?_, fun z => by rw [if_neg (by omega)], e10, fun _ _ => rfl, fun _ _ _ => rfl⟩
    rw [show 0 + 1 + j = j + 1 by omega, f_X4_passes_1_L2, if_pos (by decide)]
  | succ m ih =>
    intro x j A h e9 e10
    have hb := p_nbi (i := x) (n := 5) (by omega) (by decide)
    have hb2 := p_nbi (i := o + x) (n := 120) (by omega) (by decide)
    have hl : ¬ (5 : Int32) ≤ Int32.ofNat x := fun z => by have := (p_le (a := 5) (by omega) (by omega)).mp z; omega
    have h9 : ¬ A 0 9 = 0 := by rw [e9]; decide
    obtain ⟨q, A2, g1, g2, g3, g4, g5⟩ := ih (x + 1) j (kE (kE A 0 10 (Int32.ofNat (o + (x + 1)))) 14 (o + x) (A 3 x)) (by omega) e9 rfl
    refine ⟨q, A2, ?_, fun z => ?_, g3, fun z hz => ?_, fun r hr hr2 => ?_⟩
    · have hb2A : ¬ (A 0 10 < 0 ∨ 120 ≤ Int32.toNatClampNeg (A 0 10)) := by rw [e10, p_tn (by omega)]; exact hb2
      rw [show m + 1 + 1 + j = (m + 1 + j) + 1 by omega, f_X4_passes_1_L2, if_neg hl]
      dsimp only
      rw [if_neg h9, p_tn (by omega), if_neg hb, if_neg hb2A, e10, p_tn (by omega), ← p_succ, ← p_succ]
      exact g1
    · have h14 : ∀ z, kE (kE A 0 10 (Int32.ofNat (o + (x + 1)))) 14 (o + x) (A 3 x) 14 z = if z = o + x then A 3 x else A 14 z := fun z => by
        rw [kE_at]
        by_cases h : z = o + x
        · rw [if_pos ⟨rfl, h⟩, if_pos h]
        · rw [if_neg (fun t => h t.2), if_neg h, kE_at, if_neg (by omega)]
      have hrow : ∀ z, kE (kE A 0 10 (Int32.ofNat (o + (x + 1)))) 14 (o + x) (A 3 x) 3 z = A 3 z := fun z => by
        rw [kE_at, if_neg (by omega), kE_at, if_neg (by omega)]
      rw [g2 z, h14, hrow]
      by_cases h1 : z = o + x
      · subst h1
        rw [if_neg (by omega), if_pos rfl, if_pos ⟨by omega, by omega⟩, Nat.add_sub_cancel_left]
      · by_cases h2 : o + (x + 1) ≤ z ∧ z < o + 5
        · rw [if_pos h2, if_pos ⟨by omega, h2.2⟩]
        · rw [if_neg h2, if_neg h1, if_neg (by omega)]
    · rw [g4 z hz, kE_at, if_neg (by omega), kE_at, if_neg (by omega)]
    · rw [g5 r hr hr2]
      show (if r = 14 then _ else (if r = 0 then _ else A r)) = _
      rw [if_neg hr2, if_neg hr]
theorem l_pr1 (k o : Nat) (ho : o ≤ 100) (B : Nat → Nat → Int64) : ∀ (m x j : Nat) (A : Nat → Nat → Int32), x + m = 5 → A 0 9 = 0 → A 0 10 = Int32.ofNat (o + x) → ∃ q A2, f_X4_passes_1_L2 (k + 200) (m + 1 + j) (Int32.ofNat x) (A, B) = some (q, (A2, B)) ∧ (∀ z, A2 3 z = if x ≤ z ∧ z < 5 then A 14 (o + z) else A 3 z) ∧ A2 0 10 = Int32.ofNat (o + 5) ∧ (∀ z, z ≠ 10 → A2 0 z = A 0 z) ∧ ∀ r, r ≠ 0 → r ≠ 3 → A2 r = A r := by
  intro m
  induction m with
  | zero =>
    intro x j A h e9 e10
    obtain rfl : x = 5 := by omega
    refine ⟨Int32.ofNat 5, A, ?_, fun z => by rw [if_neg (by omega)], e10, fun _ _ => rfl, fun _ _ _ => rfl⟩
    rw [show 0 + 1 + j = j + 1 by omega, f_X4_passes_1_L2, if_pos (by decide)]
  | succ m ih =>
    intro x j A h e9 e10
    have hb := p_nbi (i := x) (n := 5) (by omega) (by decide)
    have hb2 := p_nbi (i := o + x) (n := 120) (by omega) (by decide)
    have hl : ¬ (5 : Int32) ≤ Int32.ofNat x := fun z => by have := (p_le (a := 5) (by omega) (by omega)).mp z; omega
    obtain ⟨q, A2, g1, g2, g3, g4, g5⟩ := ih (x + 1) j (kE (kE A 0 10 (Int32.ofNat (o + (x + 1)))) 3 x (A 14 (o + x))) (by omega) e9 rfl
    refine ⟨q, A2, ?_, fun z => ?_, g3, fun z hz => ?_, fun r hr hr2 => ?_⟩
    · have hb2A : ¬ (A 0 10 < 0 ∨ 120 ≤ Int32.toNatClampNeg (A 0 10)) := by rw [e10, p_tn (by omega)]; exact hb2
      rw [show m + 1 + 1 + j = (m + 1 + j) + 1 by omega, f_X4_passes_1_L2, if_neg hl]
      dsimp only
      rw [if_pos e9, if_neg hb2A, p_tn (by omega), if_neg hb, e10, p_tn (by omega), ← p_succ, ← p_succ]
      exact g1
    · have hrow : ∀ z, kE (kE A 0 10 (Int32.ofNat (o + (x + 1)))) 3 x (A 14 (o + x)) 3 z = if z = x then A 14 (o + x) else A 3 z := fun z => by
        rw [kE_at]
        by_cases h : z = x
        · rw [if_pos ⟨rfl, h⟩, if_pos h]
        · rw [if_neg (fun t => h t.2), if_neg h, kE_at, if_neg (by omega)]
      have h14 : ∀ z, kE (kE A 0 10 (Int32.ofNat (o + (x + 1)))) 3 x (A 14 (o + x)) 14 z = A 14 z := fun z => by
        rw [kE_at, if_neg (by omega), kE_at, if_neg (by omega)]
      rw [g2 z, h14, hrow]
      by_cases h1 : z = x
      · subst h1
        rw [if_neg (by omega), if_pos rfl, if_pos ⟨by omega, by omega⟩]
      · by_cases h2 : x + 1 ≤ z ∧ z < 5
        · rw [if_pos h2, if_pos ⟨by omega, h2.2⟩]
        · rw [if_neg h2, if_neg h1, if_neg (by omega)]
    · rw [g4 z hz, kE_at, if_neg (by omega), kE_at, if_neg (by omega)]
    · rw [g5 r hr hr2]
      show (if r = 3 then _ else (if r = 0 then _ else A r)) = _
      rw [if_neg hr2, if_neg hr]
theorem pk1 (k o : Nat) (ho : o ≤ 100) (A : Nat → Nat → Int32) (B : Nat → Nat → Int64) (e9 : A 0 9 = 1) (e10 : A 0 10 = Int32.ofNat o) : ∃ A2, f_X4_passes_1 (A, B) (k + 200) = some (A2, B) ∧ (∀ z, A2 14 z = if o ≤ z ∧ z < o + 5 then A 3 (z - o) else A 14 z) ∧ A2 0 10 = Int32.ofNat (o + 5) ∧ (∀ z, z ≠ 10 → A2 0 z = A 0 z) ∧ ∀ r, r ≠ 0 → r ≠ 14 → A2 r = A r := by
  obtain ⟨q, A2, g1, g2⟩ := l_pk1 k o ho B 5 0 (k + 194) A (by decide) e9 e10
  rw [show 5 + 1 + (k + 194) = k + 200 by omega] at g1
  have g1' : f_X4_passes_1_L2 (k + 200) (k + 200) 0 (A, B) = _ := g1
  refine ⟨A2, ?_, g2⟩
  unfold f_X4_passes_1
  rw [g1', p_bs]
theorem pr1 (k o : Nat) (ho : o ≤ 100) (A : Nat → Nat → Int32) (B : Nat → Nat → Int64) (e9 : A 0 9 = 0) (e10 : A 0 10 = Int32.ofNat o) : ∃ A2, f_X4_passes_1 (A, B) (k + 200) = some (A2, B) ∧ (∀ z, A2 3 z = if z < 5 then A 14 (o + z) else A 3 z) ∧ A2 0 10 = Int32.ofNat (o + 5) ∧ (∀ z, z ≠ 10 → A2 0 z = A 0 z) ∧ ∀ r, r ≠ 0 → r ≠ 3 → A2 r = A r := by
  obtain ⟨q, A2, g1, g2, g3⟩ := l_pr1 k o ho B 5 0 (k + 194) A (by decide) e9 e10
  rw [show 5 + 1 + (k + 194) = k + 200 by omega] at g1
  have g1' : f_X4_passes_1_L2 (k + 200) (k + 200) 0 (A, B) = _ := g1
  refine ⟨A2, ?_, fun z => ?_, g3⟩
  · unfold f_X4_passes_1
    rw [g1', p_bs]
  · rw [g2 z]
    by_cases h : z < 5
    · rw [if_pos h, if_pos ⟨by omega, h⟩]
    · rw [if_neg h, if_neg (by omega)]
theorem l_pk2 (k o : Nat) (ho : o ≤ 100) (B : Nat → Nat → Int64) : ∀ (m x j : Nat) (A : Nat → Nat → Int32), x + m = 5 → A 0 9 = 1 → A 0 10 = Int32.ofNat (o + x) → ∃ q A2, f_X4_passes_2_L2 (k + 200) (m + 1 + j) (Int32.ofNat x) (A, B) = some (q, (A2, B)) ∧ (∀ z, A2 14 z = if o + x ≤ z ∧ z < o + 5 then A 4 (z - o) else A 14 z) ∧ A2 0 10 = Int32.ofNat (o + 5) ∧ (∀ z, z ≠ 10 → A2 0 z = A 0 z) ∧ ∀ r, r ≠ 0 → r ≠ 14 → A2 r = A r := by
  intro m
  induction m with
  | zero =>
    intro x j A h e9 e10
    obtain rfl : x = 5 := by omega
    refine ⟨Int32.ofNat 5, A, ?_, fun z => by rw [if_neg (by omega)], e10, fun _ _ => rfl, fun _ _ _ => rfl⟩
    rw [show 0 + 1 + j = j + 1 by omega, f_X4_passes_2_L2, if_pos (by decide)]
  | succ m ih =>
    intro x j A h e9 e10
    have hb := p_nbi (i := x) (n := 5) (by omega) (by decide)
    have hb2 := p_nbi (i := o + x) (n := 120) (by omega) (by decide)
    have hl : ¬ (5 : Int32) ≤ Int32.ofNat x := fun z => by have := (p_le (a := 5) (by omega) (by omega)).mp z; omega
    have h9 : ¬ A 0 9 = 0 := by rw [e9]; decide
    obtain ⟨q, A2, g1, g2, g3, g4, g5⟩ := ih (x + 1) j (kE (kE A 0 10 (Int32.ofNat (o + (x + 1)))) 14 (o + x) (A 4 x)) (by omega) e9 rfl
    refine ⟨q, A2, ?_, fun z => ?_, g3, fun z hz => ?_, fun r hr hr2 => ?_⟩
    · have hb2A : ¬ (A 0 10 < 0 ∨ 120 ≤ Int32.toNatClampNeg (A 0 10)) := by rw [e10, p_tn (by omega)]; exact hb2
      rw [show m + 1 + 1 + j = (m + 1 + j) + 1 by omega, f_X4_passes_2_L2, if_neg hl]
      dsimp only
      rw [if_neg h9, p_tn (by omega), if_neg hb, if_neg hb2A, e10, p_tn (by omega), ← p_succ, ← p_succ]
      exact g1
    · have h14 : ∀ z, kE (kE A 0 10 (Int32.ofNat (o + (x + 1)))) 14 (o + x) (A 4 x) 14 z = if z = o + x then A 4 x else A 14 z := fun z => by
        rw [kE_at]
        by_cases h : z = o + x
        · rw [if_pos ⟨rfl, h⟩, if_pos h]
        · rw [if_neg (fun t => h t.2), if_neg h, kE_at, if_neg (by omega)]
      have hrow : ∀ z, kE (kE A 0 10 (Int32.ofNat (o + (x + 1)))) 14 (o + x) (A 4 x) 4 z = A 4 z := fun z => by
        rw [kE_at, if_neg (by omega), kE_at, if_neg (by omega)]
      rw [g2 z, h14, hrow]
      by_cases h1 : z = o + x
      · subst h1
        rw [if_neg (by omega), if_pos rfl, if_pos ⟨by omega, by omega⟩, Nat.add_sub_cancel_left]
      · by_cases h2 : o + (x + 1) ≤ z ∧ z < o + 5
        · rw [if_pos h2, if_pos ⟨by omega, h2.2⟩]
        · rw [if_neg h2, if_neg h1, if_neg (by omega)]
    · rw [g4 z hz, kE_at, if_neg (by omega), kE_at, if_neg (by omega)]
    · rw [g5 r hr hr2]
      show (if r = 14 then _ else (if r = 0 then _ else A r)) = _
      rw [if_neg hr2, if_neg hr]
theorem l_pr2 (k o : Nat) (ho : o ≤ 100) (B : Nat → Nat → Int64) : ∀ (m x j : Nat) (A : Nat → Nat → Int32), x + m = 5 → A 0 9 = 0 → A 0 10 = Int32.ofNat (o + x) → ∃ q A2, f_X4_passes_2_L2 (k + 200) (m + 1 + j) (Int32.ofNat x) (A, B) = some (q, (A2, B)) ∧ (∀ z, A2 4 z = if x ≤ z ∧ z < 5 then A 14 (o + z) else A 4 z) ∧ A2 0 10 = Int32.ofNat (o + 5) ∧ (∀ z, z ≠ 10 → A2 0 z = A 0 z) ∧ ∀ r, r ≠ 0 → r ≠ 4 → A2 r = A r := by
  intro m
  induction m with
  | zero =>
    intro x j A h e9 e10
    obtain rfl : x = 5 := by omega
    refine ⟨Int32.ofNat 5, A, ?_, fun z => by rw [if_neg (by omega)], e10, fun _ _ => rfl, fun _ _ _ => rfl⟩
    rw [show 0 + 1 + j = j + 1 by omega, f_X4_passes_2_L2, if_pos (by decide)]
  | succ m ih =>
    intro x j A h e9 e10
    have hb := p_nbi (i := x) (n := 5) (by omega) (by decide)
    have hb2 := p_nbi (i := o + x) (n := 120) (by omega) (by decide)
    have hl : ¬ (5 : Int32) ≤ Int32.ofNat x := fun z => by have := (p_le (a := 5) (by omega) (by omega)).mp z; omega
    obtain ⟨q, A2, g1, g2, g3, g4, g5⟩ := ih (x + 1) j (kE (kE A 0 10 (Int32.ofNat (o + (x + 1)))) 4 x (A 14 (o + x))) (by omega) e9 rfl
    refine ⟨q, A2, ?_, fun z => ?_, g3, fun z hz => ?_, fun r hr hr2 => ?_⟩
    · have hb2A : ¬ (A 0 10 < 0 ∨ 120 ≤ Int32.toNatClampNeg (A 0 10)) := by rw [e10, p_tn (by omega)]; exact hb2
      rw [show m + 1 + 1 + j = (m + 1 + j) + 1 by omega, f_X4_passes_2_L2, if_neg hl]
      dsimp only
      rw [if_pos e9, if_neg hb2A, p_tn (by omega), if_neg hb, e10, p_tn (by omega), ← p_succ, ← p_succ]
      exact g1
    · have hrow : ∀ z, kE (kE A 0 10 (Int32.ofNat (o + (x + 1)))) 4 x (A 14 (o + x)) 4 z = if z = x then A 14 (o + x) else A 4 z := fun z => by
        rw [kE_at]
        by_cases h : z = x
        · rw [if_pos ⟨rfl, h⟩, if_pos h]
        · rw [if_neg (fun t => h t.2), if_neg h, kE_at, if_neg (by omega)]
      have h14 : ∀ z, kE (kE A 0 10 (Int32.ofNat (o + (x + 1)))) 4 x (A 14 (o + x)) 14 z = A 14 z := fun z => by
        rw [kE_at, if_neg (by omega), kE_at, if_neg (by omega)]
      rw [g2 z, h14, hrow]
      by_cases h1 : z = x
      · subst h1
        rw [if_neg (by omega), if_pos rfl, if_pos ⟨by omega, by omega⟩]
      · by_cases h2 : x + 1 ≤ z ∧ z < 5
        · rw [if_pos h2, if_pos ⟨by omega, h2.2⟩]
        · rw [if_neg h2, if_neg h1, if_neg (by omega)]
    · rw [g4 z hz, kE_at, if_neg (by omega), kE_at, if_neg (by omega)]
    · rw [g5 r hr hr2]
      show (if r = 4 then _ else (if r = 0 then _ else A r)) = _
      rw [if_neg hr2, if_neg hr]
theorem pk2 (k o : Nat) (ho : o ≤ 100) (A : Nat → Nat → Int32) (B : Nat → Nat → Int64) (e9 : A 0 9 = 1) (e10 : A 0 10 = Int32.ofNat o) : ∃ A2, f_X4_passes_2 (A, B) (k + 200) = some (A2, B) ∧ (∀ z, A2 14 z = if o ≤ z ∧ z < o + 5 then A 4 (z - o) else A 14 z) ∧ A2 0 10 = Int32.ofNat (o + 5) ∧ (∀ z, z ≠ 10 → A2 0 z = A 0 z) ∧ ∀ r, r ≠ 0 → r ≠ 14 → A2 r = A r := by
  obtain ⟨q, A2, g1, g2⟩ := l_pk2 k o ho B 5 0 (k + 194) A (by decide) e9 e10
  rw [show 5 + 1 + (k + 194) = k + 200 by omega] at g1
  have g1' : f_X4_passes_2_L2 (k + 200) (k + 200) 0 (A, B) = _ := g1
  refine ⟨A2, ?_, g2⟩
  unfold f_X4_passes_2
  rw [g1', p_bs]
theorem pr2 (k o : Nat) (ho : o ≤ 100) (A : Nat → Nat → Int32) (B : Nat → Nat → Int64) (e9 : A 0 9 = 0) (e10 : A 0 10 = Int32.ofNat o) : ∃ A2, f_X4_passes_2 (A, B) (k + 200) = some (A2, B) ∧ (∀ z, A2 4 z = if z < 5 then A 14 (o + z) else A 4 z) ∧ A2 0 10 = Int32.ofNat (o + 5) ∧ (∀ z, z ≠ 10 → A2 0 z = A 0 z) ∧ ∀ r, r ≠ 0 → r ≠ 4 → A2 r = A r := by
  obtain ⟨q, A2, g1, g2, g3⟩ := l_pr2 k o ho B 5 0 (k + 194) A (by decide) e9 e10
  rw [show 5 + 1 + (k + 194) = k + 200 by omega] at g1
  have g1' : f_X4_passes_2_L2 (k + 200) (k + 200) 0 (A, B) = _ := g1
  refine ⟨A2, ?_, fun z => ?_, g3⟩
  · unfold f_X4_passes_2
    rw [g1', p_bs]
  · rw [g2 z]
    by_cases h : z < 5
    · rw [if_pos h, if_pos ⟨by omega, h⟩]
    · rw [if_neg h, if_neg (by omega)]
theorem l_pk3 (k o : Nat) (ho : o ≤ 100) (B : Nat → Nat → Int64) : ∀ (m x j : Nat) (A : Nat → Nat → Int32), x + m = 5 → A 0 9 = 1 → A 0 10 = Int32.ofNat (o + x) → ∃ q A2, f_X4_passes_3_L2 (k + 200) (m + 1 + j) (Int32.ofNat x) (A, B) = some (q, (A2, B)) ∧ (∀ z, A2 14 z = if o + x ≤ z ∧ z < o + 5 then A 5 (z - o) else A 14 z) ∧ A2 0 10 = Int32.ofNat (o + 5) ∧ (∀ z, z ≠ 10 → A2 0 z = A 0 z) ∧ ∀ r, r ≠ 0 → r ≠ 14 → A2 r = A r := by
  intro m
  induction m with
  | zero =>
    intro x j A h e9 e10
    obtain rfl : x = 5 := by omega
    refine ⟨Int32.ofNat 5, A, ?_, fun z => by rw [if_neg (by omega)], e10, fun _ _ => rfl, fun _ _ _ => rfl⟩
    rw [show 0 + 1 + j = j + 1 by omega, f_X4_passes_3_L2, if_pos (by decide)]
  | succ m ih =>
    intro x j A h e9 e10
    have hb := p_nbi (i := x) (n := 5) (by omega) (by decide)
    have hb2 := p_nbi (i := o + x) (n := 120) (by omega) (by decide)
    have hl : ¬ (5 : Int32) ≤ Int32.ofNat x := fun z => by have := (p_le (a := 5) (by omega) (by omega)).mp z; omega
    have h9 : ¬ A 0 9 = 0 := by rw [e9]; decide
    obtain ⟨q, A2, g1, g2, g3, g4, g5⟩ := ih (x + 1) j (kE (kE A 0 10 (Int32.ofNat (o + (x + 1)))) 14 (o + x) (A 5 x)) (by omega) e9 rfl
    refine ⟨q, A2, ?_, fun z => ?_, g3, fun z hz => ?_, fun r hr hr2 => ?_⟩
    · have hb2A : ¬ (A 0 10 < 0 ∨ 120 ≤ Int32.toNatClampNeg (A 0 10)) := by rw [e10, p_tn (by omega)]; exact hb2
      rw [show m + 1 + 1 + j = (m + 1 + j) + 1 by omega, f_X4_passes_3_L2, if_neg hl]
      dsimp only
      rw [if_neg h9, p_tn (by omega), if_neg hb, if_neg hb2A, e10, p_tn (by omega), ← p_succ, ← p_succ]
      exact g1
    · have h14 : ∀ z, kE (kE A 0 10 (Int32.ofNat (o + (x + 1)))) 14 (o + x) (A 5 x) 14 z = if z = o + x then A 5 x else A 14 z := fun z => by
        rw [kE_at]
        by_cases h : z = o + x
        · rw [if_pos ⟨rfl, h⟩, if_pos h]
        · rw [if_neg (fun t => h t.2), if_neg h, kE_at, if_neg (by omega)]
      have hrow : ∀ z, kE (kE A 0 10 (Int32.ofNat (o + (x + 1)))) 14 (o + x) (A 5 x) 5 z = A 5 z := fun z => by
        rw [kE_at, if_neg (by omega), kE_at, if_neg (by omega)]
      rw [g2 z, h14, hrow]
      by_cases h1 : z = o + x
      · subst h1
        rw [if_neg (by omega), if_pos rfl, if_pos ⟨by omega, by omega⟩, Nat.add_sub_cancel_left]
      · by_cases h2 : o + (x + 1) ≤ z ∧ z < o + 5
        · rw [if_pos h2, if_pos ⟨by omega, h2.2⟩]
        · rw [if_neg h2, if_neg h1, if_neg (by omega)]
    · rw [g4 z hz, kE_at, if_neg (by omega), kE_at, if_neg (by omega)]
    · rw [g5 r hr hr2]
      show (if r = 14 then _ else (if r = 0 then _ else A r)) = _
      rw [if_neg hr2, if_neg hr]
theorem l_pr3 (k o : Nat) (ho : o ≤ 100) (B : Nat → Nat → Int64) : ∀ (m x j : Nat) (A : Nat → Nat → Int32), x + m = 5 → A 0 9 = 0 → A 0 10 = Int32.ofNat (o + x) → ∃ q A2, f_X4_passes_3_L2 (k + 200) (m + 1 + j) (Int32.ofNat x) (A, B) = some (q, (A2, B)) ∧ (∀ z, A2 5 z = if x ≤ z ∧ z < 5 then A 14 (o + z) else A 5 z) ∧ A2 0 10 = Int32.ofNat (o + 5) ∧ (∀ z, z ≠ 10 → A2 0 z = A 0 z) ∧ ∀ r, r ≠ 0 → r ≠ 5 → A2 r = A r := by
  intro m
  induction m with
  | zero =>
    intro x j A h e9 e10
    obtain rfl : x = 5 := by omega
    refine ⟨Int32.ofNat 5, A, ?_, fun z => by rw [if_neg (by omega)], e10, fun _ _ => rfl, fun _ _ _ => rfl⟩
    rw [show 0 + 1 + j = j + 1 by omega, f_X4_passes_3_L2, if_pos (by decide)]
  | succ m ih =>
    intro x j A h e9 e10
    have hb := p_nbi (i := x) (n := 5) (by omega) (by decide)
    have hb2 := p_nbi (i := o + x) (n := 120) (by omega) (by decide)
    have hl : ¬ (5 : Int32) ≤ Int32.ofNat x := fun z => by have := (p_le (a := 5) (by omega) (by omega)).mp z; omega
    obtain ⟨q, A2, g1, g2, g3, g4, g5⟩ := ih (x + 1) j (kE (kE A 0 10 (Int32.ofNat (o + (x + 1)))) 5 x (A 14 (o + x))) (by omega) e9 rfl
    refine ⟨q, A2, ?_, fun z => ?_, g3, fun z hz => ?_, fun r hr hr2 => ?_⟩
    · have hb2A : ¬ (A 0 10 < 0 ∨ 120 ≤ Int32.toNatClampNeg (A 0 10)) := by rw [e10, p_tn (by omega)]; exact hb2
      rw [show m + 1 + 1 + j = (m + 1 + j) + 1 by omega, f_X4_passes_3_L2, if_neg hl]
      dsimp only
      rw [if_pos e9, if_neg hb2A, p_tn (by omega), if_neg hb, e10, p_tn (by omega), ← p_succ, ← p_succ]
      exact g1
    · have hrow : ∀ z, kE (kE A 0 10 (Int32.ofNat (o + (x + 1)))) 5 x (A 14 (o + x)) 5 z = if z = x then A 14 (o + x) else A 5 z := fun z => by
        rw [kE_at]
        by_cases h : z = x
        · rw [if_pos ⟨rfl, h⟩, if_pos h]
        · rw [if_neg (fun t => h t.2), if_neg h, kE_at, if_neg (by omega)]
      have h14 : ∀ z, kE (kE A 0 10 (Int32.ofNat (o + (x + 1)))) 5 x (A 14 (o + x)) 14 z = A 14 z := fun z => by
        rw [kE_at, if_neg (by omega), kE_at, if_neg (by omega)]
      rw [g2 z, h14, hrow]
      by_cases h1 : z = x
      · subst h1
        rw [if_neg (by omega), if_pos rfl, if_pos ⟨by omega, by omega⟩]
      · by_cases h2 : x + 1 ≤ z ∧ z < 5
        · rw [if_pos h2, if_pos ⟨by omega, h2.2⟩]
        · rw [if_neg h2, if_neg h1, if_neg (by omega)]
    · rw [g4 z hz, kE_at, if_neg (by omega), kE_at, if_neg (by omega)]
    · rw [g5 r hr hr2]
      show (if r = 5 then _ else (if r = 0 then _ else A r)) = _
      rw [if_neg hr2, if_neg hr]
theorem pk3 (k o : Nat) (ho : o ≤ 100) (A : Nat → Nat → Int32) (B : Nat → Nat → Int64) (e9 : A 0 9 = 1) (e10 : A 0 10 = Int32.ofNat o) : ∃ A2, f_X4_passes_3 (A, B) (k + 200) = some (A2, B) ∧ (∀ z, A2 14 z = if o ≤ z ∧ z < o + 5 then A 5 (z - o) else A 14 z) ∧ A2 0 10 = Int32.ofNat (o + 5) ∧ (∀ z, z ≠ 10 → A2 0 z = A 0 z) ∧ ∀ r, r ≠ 0 → r ≠ 14 → A2 r = A r := by
  obtain ⟨q, A2, g1, g2⟩ := l_pk3 k o ho B 5 0 (k + 194) A (by decide) e9 e10
  rw [show 5 + 1 + (k + 194) = k + 200 by omega] at g1
  have g1' : f_X4_passes_3_L2 (k + 200) (k + 200) 0 (A, B) = _ := g1
  refine ⟨A2, ?_, g2⟩
  unfold f_X4_passes_3
  rw [g1', p_bs]
theorem pr3 (k o : Nat) (ho : o ≤ 100) (A : Nat → Nat → Int32) (B : Nat → Nat → Int64) (e9 : A 0 9 = 0) (e10 : A 0 10 = Int32.ofNat o) : ∃ A2, f_X4_passes_3 (A, B) (k + 200) = some (A2, B) ∧ (∀ z, A2 5 z = if z < 5 then A 14 (o + z) else A 5 z) ∧ A2 0 10 = Int32.ofNat (o + 5) ∧ (∀ z, z ≠ 10 → A2 0 z = A 0 z) ∧ ∀ r, r ≠ 0 → r ≠ 5 → A2 r = A r := by
  obtain ⟨q, A2, g1, g2, g3⟩ := l_pr3 k o ho B 5 0 (k + 194) A (by decide) e9 e10
  rw [show 5 + 1 + (k + 194) = k + 200 by omega] at g1
  have g1' : f_X4_passes_3_L2 (k + 200) (k + 200) 0 (A, B) = _ := g1
  refine ⟨A2, ?_, fun z => ?_, g3⟩
  · unfold f_X4_passes_3
    rw [g1', p_bs]
  · rw [g2 z]
    by_cases h : z < 5
    · rw [if_pos h, if_pos ⟨by omega, h⟩]
    · rw [if_neg h, if_neg (by omega)]
theorem l_pk4 (k o : Nat) (ho : o ≤ 100) (B : Nat → Nat → Int64) : ∀ (m x j : Nat) (A : Nat → Nat → Int32), x + m = 4 → A 0 9 = 1 → A 0 10 = Int32.ofNat (o + x) → ∃ q A2, f_X4_passes_4_L2 (k + 200) (m + 1 + j) (Int32.ofNat x) (A, B) = some (q, (A2, B)) ∧ (∀ z, A2 14 z = if o + x ≤ z ∧ z < o + 4 then A 6 (z - o) else A 14 z) ∧ A2 0 10 = Int32.ofNat (o + 4) ∧ (∀ z, z ≠ 10 → A2 0 z = A 0 z) ∧ ∀ r, r ≠ 0 → r ≠ 14 → A2 r = A r := by
  intro m
  induction m with
  | zero =>
    intro x j A h e9 e10
    obtain rfl : x = 4 := by omega
    refine ⟨Int32.ofNat 4, A, ?_, fun z => by rw [if_neg (by omega)], e10, fun _ _ => rfl, fun _ _ _ => rfl⟩
    rw [show 0 + 1 + j = j + 1 by omega, f_X4_passes_4_L2, if_pos (by decide)]
  | succ m ih =>
    intro x j A h e9 e10
    have hb := p_nbi (i := x) (n := 4) (by omega) (by decide)
    have hb2 := p_nbi (i := o + x) (n := 120) (by omega) (by decide)
    have hl : ¬ (4 : Int32) ≤ Int32.ofNat x := fun z => by have := (p_le (a := 4) (by omega) (by omega)).mp z; omega
    have h9 : ¬ A 0 9 = 0 := by rw [e9]; decide
    obtain ⟨q, A2, g1, g2, g3, g4, g5⟩ := ih (x + 1) j (kE (kE A 0 10 (Int32.ofNat (o + (x + 1)))) 14 (o + x) (A 6 x)) (by omega) e9 rfl
    refine ⟨q, A2, ?_, fun z => ?_, g3, fun z hz => ?_, fun r hr hr2 => ?_⟩
    · have hb2A : ¬ (A 0 10 < 0 ∨ 120 ≤ Int32.toNatClampNeg (A 0 10)) := by rw [e10, p_tn (by omega)]; exact hb2
      rw [show m + 1 + 1 + j = (m + 1 + j) + 1 by omega, f_X4_passes_4_L2, if_neg hl]
      dsimp only
      rw [if_neg h9, p_tn (by omega), if_neg hb, if_neg hb2A, e10, p_tn (by omega), ← p_succ, ← p_succ]
      exact g1
    · have h14 : ∀ z, kE (kE A 0 10 (Int32.ofNat (o + (x + 1)))) 14 (o + x) (A 6 x) 14 z = if z = o + x then A 6 x else A 14 z := fun z => by
        rw [kE_at]
        by_cases h : z = o + x
        · rw [if_pos ⟨rfl, h⟩, if_pos h]
        · rw [if_neg (fun t => h t.2), if_neg h, kE_at, if_neg (by omega)]
      have hrow : ∀ z, kE (kE A 0 10 (Int32.ofNat (o + (x + 1)))) 14 (o + x) (A 6 x) 6 z = A 6 z := fun z => by
        rw [kE_at, if_neg (by omega), kE_at, if_neg (by omega)]
      rw [g2 z, h14, hrow]
      by_cases h1 : z = o + x
      · subst h1
        rw [if_neg (by omega), if_pos rfl, if_pos ⟨by omega, by omega⟩, Nat.add_sub_cancel_left]
      · by_cases h2 : o + (x + 1) ≤ z ∧ z < o + 4
        · rw [if_pos h2, if_pos ⟨by omega, h2.2⟩]
        · rw [if_neg h2, if_neg h1, if_neg (by omega)]
    · rw [g4 z hz, kE_at, if_neg (by omega), kE_at, if_neg (by omega)]
    · rw [g5 r hr hr2]
      show (if r = 14 then _ else (if r = 0 then _ else A r)) = _
      rw [if_neg hr2, if_neg hr]
theorem l_pr4 (k o : Nat) (ho : o ≤ 100) (B : Nat → Nat → Int64) : ∀ (m x j : Nat) (A : Nat → Nat → Int32), x + m = 4 → A 0 9 = 0 → A 0 10 = Int32.ofNat (o + x) → ∃ q A2, f_X4_passes_4_L2 (k + 200) (m + 1 + j) (Int32.ofNat x) (A, B) = some (q, (A2, B)) ∧ (∀ z, A2 6 z = if x ≤ z ∧ z < 4 then A 14 (o + z) else A 6 z) ∧ A2 0 10 = Int32.ofNat (o + 4) ∧ (∀ z, z ≠ 10 → A2 0 z = A 0 z) ∧ ∀ r, r ≠ 0 → r ≠ 6 → A2 r = A r := by
  intro m
  induction m with
  | zero =>
    intro x j A h e9 e10
    obtain rfl : x = 4 := by omega
    refine ⟨Int32.ofNat 4, A, ?_, fun z => by rw [if_neg (by omega)], e10, fun _ _ => rfl, fun _ _ _ => rfl⟩
    rw [show 0 + 1 + j = j + 1 by omega, f_X4_passes_4_L2, if_pos (by decide)]
  | succ m ih =>
    intro x j A h e9 e10
    have hb := p_nbi (i := x) (n := 4) (by omega) (by decide)
    have hb2 := p_nbi (i := o + x) (n := 120) (by omega) (by decide)
    have hl : ¬ (4 : Int32) ≤ Int32.ofNat x := fun z => by have := (p_le (a := 4) (by omega) (by omega)).mp z; omega
    obtain ⟨q, A2, g1, g2, g3, g4, g5⟩ := ih (x + 1) j (kE (kE A 0 10 (Int32.ofNat (o + (x + 1)))) 6 x (A 14 (o + x))) (by omega) e9 rfl
    refine ⟨q, A2, ?_, fun z => ?_, g3, fun z hz => ?_, fun r hr hr2 => ?_⟩
    · have hb2A : ¬ (A 0 10 < 0 ∨ 120 ≤ Int32.toNatClampNeg (A 0 10)) := by rw [e10, p_tn (by omega)]; exact hb2
      rw [show m + 1 + 1 + j = (m + 1 + j) + 1 by omega, f_X4_passes_4_L2, if_neg hl]
      dsimp only
      rw [if_pos e9, if_neg hb2A, p_tn (by omega), if_neg hb, e10, p_tn (by omega), ← p_succ, ← p_succ]
      exact g1
    · have hrow : ∀ z, kE (kE A 0 10 (Int32.ofNat (o + (x + 1)))) 6 x (A 14 (o + x)) 6 z = if z = x then A 14 (o + x) else A 6 z := fun z => by
        rw [kE_at]
        by_cases h : z = x
        · rw [if_pos ⟨rfl, h⟩, if_pos h]
        · rw [if_neg (fun t => h t.2), if_neg h, kE_at, if_neg (by omega)]
      have h14 : ∀ z, kE (kE A 0 10 (Int32.ofNat (o + (x + 1)))) 6 x (A 14 (o + x)) 14 z = A 14 z := fun z => by
        rw [kE_at, if_neg (by omega), kE_at, if_neg (by omega)]
      rw [g2 z, h14, hrow]
      by_cases h1 : z = x
      · subst h1
        rw [if_neg (by omega), if_pos rfl, if_pos ⟨by omega, by omega⟩]
      · by_cases h2 : x + 1 ≤ z ∧ z < 4
        · rw [if_pos h2, if_pos ⟨by omega, h2.2⟩]
        · rw [if_neg h2, if_neg h1, if_neg (by omega)]
    · rw [g4 z hz, kE_at, if_neg (by omega), kE_at, if_neg (by omega)]
    · rw [g5 r hr hr2]
      show (if r = 6 then _ else (if r = 0 then _ else A r)) = _
      rw [if_neg hr2, if_neg hr]
theorem pk4 (k o : Nat) (ho : o ≤ 100) (A : Nat → Nat → Int32) (B : Nat → Nat → Int64) (e9 : A 0 9 = 1) (e10 : A 0 10 = Int32.ofNat o) : ∃ A2, f_X4_passes_4 (A, B) (k + 200) = some (A2, B) ∧ (∀ z, A2 14 z = if o ≤ z ∧ z < o + 4 then A 6 (z - o) else A 14 z) ∧ A2 0 10 = Int32.ofNat (o + 4) ∧ (∀ z, z ≠ 10 → A2 0 z = A 0 z) ∧ ∀ r, r ≠ 0 → r ≠ 14 → A2 r = A r := by
  obtain ⟨q, A2, g1, g2⟩ := l_pk4 k o ho B 4 0 (k + 195) A (by decide) e9 e10
  rw [show 4 + 1 + (k + 195) = k + 200 by omega] at g1
  have g1' : f_X4_passes_4_L2 (k + 200) (k + 200) 0 (A, B) = _ := g1
  refine ⟨A2, ?_, g2⟩
  unfold f_X4_passes_4
  rw [g1', p_bs]
theorem pr4 (k o : Nat) (ho : o ≤ 100) (A : Nat → Nat → Int32) (B : Nat → Nat → Int64) (e9 : A 0 9 = 0) (e10 : A 0 10 = Int32.ofNat o) : ∃ A2, f_X4_passes_4 (A, B) (k + 200) = some (A2, B) ∧ (∀ z, A2 6 z = if z < 4 then A 14 (o + z) else A 6 z) ∧ A2 0 10 = Int32.ofNat (o + 4) ∧ (∀ z, z ≠ 10 → A2 0 z = A 0 z) ∧ ∀ r, r ≠ 0 → r ≠ 6 → A2 r = A r := by
  obtain ⟨q, A2, g1, g2, g3⟩ := l_pr4 k o ho B 4 0 (k + 195) A (by decide) e9 e10
  rw [show 4 + 1 + (k + 195) = k + 200 by omega] at g1
  have g1' : f_X4_passes_4_L2 (k + 200) (k + 200) 0 (A, B) = _ := g1
  refine ⟨A2, ?_, fun z => ?_, g3⟩
  · unfold f_X4_passes_4
    rw [g1', p_bs]
  · rw [g2 z]
    by_cases h : z < 4
    · rw [if_pos h, if_pos ⟨by omega, h⟩]
    · rw [if_neg h, if_neg (by omega)]
theorem l_pk5 (k o : Nat) (ho : o ≤ 100) (B : Nat → Nat → Int64) : ∀ (m x j : Nat) (A : Nat → Nat → Int32), x + m = 8 → A 0 9 = 1 → A 0 10 = Int32.ofNat (o + x) → ∃ q A2, f_X4_passes_5_L2 (k + 200) (m + 1 + j) (Int32.ofNat x) (A, B) = some (q, (A2, B)) ∧ (∀ z, A2 14 z = if o + x ≤ z ∧ z < o + 8 then A 7 (z - o) else A 14 z) ∧ A2 0 10 = Int32.ofNat (o + 8) ∧ (∀ z, z ≠ 10 → A2 0 z = A 0 z) ∧ ∀ r, r ≠ 0 → r ≠ 14 → A2 r = A r := by
  intro m
  induction m with
  | zero =>
    intro x j A h e9 e10
    obtain rfl : x = 8 := by omega
    refine ⟨Int32.ofNat 8, A, ?_, fun z => by rw [if_neg (by omega)], e10, fun _ _ => rfl, fun _ _ _ => rfl⟩
    rw [show 0 + 1 + j = j + 1 by omega, f_X4_passes_5_L2, if_pos (by decide)]
  | succ m ih =>
    intro x j A h e9 e10
    have hb := p_nbi (i := x) (n := 8) (by omega) (by decide)
    have hb2 := p_nbi (i := o + x) (n := 120) (by omega) (by decide)
    have hl : ¬ (8 : Int32) ≤ Int32.ofNat x := fun z => by have := (p_le (a := 8) (by omega) (by omega)).mp z; omega
    have h9 : ¬ A 0 9 = 0 := by rw [e9]; decide
    obtain ⟨q, A2, g1, g2, g3, g4, g5⟩ := ih (x + 1) j (kE (kE A 0 10 (Int32.ofNat (o + (x + 1)))) 14 (o + x) (A 7 x)) (by omega) e9 rfl
    refine ⟨q, A2, ?_, fun z => ?_, g3, fun z hz => ?_, fun r hr hr2 => ?_⟩
    · have hb2A : ¬ (A 0 10 < 0 ∨ 120 ≤ Int32.toNatClampNeg (A 0 10)) := by rw [e10, p_tn (by omega)]; exact hb2
      rw [show m + 1 + 1 + j = (m + 1 + j) + 1 by omega, f_X4_passes_5_L2, if_neg hl]
      dsimp only
      rw [if_neg h9, p_tn (by omega), if_neg hb, if_neg hb2A, e10, p_tn (by omega), ← p_succ, ← p_succ]
      exact g1
    · have h14 : ∀ z, kE (kE A 0 10 (Int32.ofNat (o + (x + 1)))) 14 (o + x) (A 7 x) 14 z = if z = o + x then A 7 x else A 14 z := fun z => by
        rw [kE_at]
        by_cases h : z = o + x
        · rw [if_pos ⟨rfl, h⟩, if_pos h]
        · rw [if_neg (fun t => h t.2), if_neg h, kE_at, if_neg (by omega)]
      have hrow : ∀ z, kE (kE A 0 10 (Int32.ofNat (o + (x + 1)))) 14 (o + x) (A 7 x) 7 z = A 7 z := fun z => by
        rw [kE_at, if_neg (by omega), kE_at, if_neg (by omega)]
      rw [g2 z, h14, hrow]
      by_cases h1 : z = o + x
      · subst h1
        rw [if_neg (by omega), if_pos rfl, if_pos ⟨by omega, by omega⟩, Nat.add_sub_cancel_left]
      · by_cases h2 : o + (x + 1) ≤ z ∧ z < o + 8
        · rw [if_pos h2, if_pos ⟨by omega, h2.2⟩]
        · rw [if_neg h2, if_neg h1, if_neg (by omega)]
    · rw [g4 z hz, kE_at, if_neg (by omega), kE_at, if_neg (by omega)]
    · rw [g5 r hr hr2]
      show (if r = 14 then _ else (if r = 0 then _ else A r)) = _
      rw [if_neg hr2, if_neg hr]
theorem l_pr5 (k o : Nat) (ho : o ≤ 100) (B : Nat → Nat → Int64) : ∀ (m x j : Nat) (A : Nat → Nat → Int32), x + m = 8 → A 0 9 = 0 → A 0 10 = Int32.ofNat (o + x) → ∃ q A2, f_X4_passes_5_L2 (k + 200) (m + 1 + j) (Int32.ofNat x) (A, B) = some (q, (A2, B)) ∧ (∀ z, A2 7 z = if x ≤ z ∧ z < 8 then A 14 (o + z) else A 7 z) ∧ A2 0 10 = Int32.ofNat (o + 8) ∧ (∀ z, z ≠ 10 → A2 0 z = A 0 z) ∧ ∀ r, r ≠ 0 → r ≠ 7 → A2 r = A r := by
  intro m
  induction m with
  | zero =>
    intro x j A h e9 e10
    obtain rfl : x = 8 := by omega
    refine ⟨Int32.ofNat 8, A, ?_, fun z => by rw [if_neg (by omega)], e10, fun _ _ => rfl, fun _ _ _ => rfl⟩
    rw [show 0 + 1 + j = j + 1 by omega, f_X4_passes_5_L2, if_pos (by decide)]
  | succ m ih =>
    intro x j A h e9 e10
    have hb := p_nbi (i := x) (n := 8) (by omega) (by decide)
    have hb2 := p_nbi (i := o + x) (n := 120) (by omega) (by decide)
    have hl : ¬ (8 : Int32) ≤ Int32.ofNat x := fun z => by have := (p_le (a := 8) (by omega) (by omega)).mp z; omega
    obtain ⟨q, A2, g1, g2, g3, g4, g5⟩ := ih (x + 1) j (kE (kE A 0 10 (Int32.ofNat (o + (x + 1)))) 7 x (A 14 (o + x))) (by omega) e9 rfl
    refine ⟨q, A2, ?_, fun z => ?_, g3, fun z hz => ?_, fun r hr hr2 => ?_⟩
    · have hb2A : ¬ (A 0 10 < 0 ∨ 120 ≤ Int32.toNatClampNeg (A 0 10)) := by rw [e10, p_tn (by omega)]; exact hb2
      rw [show m + 1 + 1 + j = (m + 1 + j) + 1 by omega, f_X4_passes_5_L2, if_neg hl]
      dsimp only
      rw [if_pos e9, if_neg hb2A, p_tn (by omega), if_neg hb, e10, p_tn (by omega), ← p_succ, ← p_succ]
      exact g1
    · have hrow : ∀ z, kE (kE A 0 10 (Int32.ofNat (o + (x + 1)))) 7 x (A 14 (o + x)) 7 z = if z = x then A 14 (o + x) else A 7 z := fun z => by
        rw [kE_at]
        by_cases h : z = x
        · rw [if_pos ⟨rfl, h⟩, if_pos h]
        · rw [if_neg (fun t => h t.2), if_neg h, kE_at, if_neg (by omega)]
      have h14 : ∀ z, kE (kE A 0 10 (Int32.ofNat (o + (x + 1)))) 7 x (A 14 (o + x)) 14 z = A 14 z := fun z => by
        rw [kE_at, if_neg (by omega), kE_at, if_neg (by omega)]
      rw [g2 z, h14, hrow]
      by_cases h1 : z = x
      · subst h1
        rw [if_neg (by omega), if_pos rfl, if_pos ⟨by omega, by omega⟩]
      · by_cases h2 : x + 1 ≤ z ∧ z < 8
        · rw [if_pos h2, if_pos ⟨by omega, h2.2⟩]
        · rw [if_neg h2, if_neg h1, if_neg (by omega)]
    · rw [g4 z hz, kE_at, if_neg (by omega), kE_at, if_neg (by omega)]
    · rw [g5 r hr hr2]
      show (if r = 7 then _ else (if r = 0 then _ else A r)) = _
      rw [if_neg hr2, if_neg hr]
theorem pk5 (k o : Nat) (ho : o ≤ 100) (A : Nat → Nat → Int32) (B : Nat → Nat → Int64) (e9 : A 0 9 = 1) (e10 : A 0 10 = Int32.ofNat o) : ∃ A2, f_X4_passes_5 (A, B) (k + 200) = some (A2, B) ∧ (∀ z, A2 14 z = if o ≤ z ∧ z < o + 8 then A 7 (z - o) else A 14 z) ∧ A2 0 10 = Int32.ofNat (o + 8) ∧ (∀ z, z ≠ 10 → A2 0 z = A 0 z) ∧ ∀ r, r ≠ 0 → r ≠ 14 → A2 r = A r := by
  obtain ⟨q, A2, g1, g2⟩ := l_pk5 k o ho B 8 0 (k + 191) A (by decide) e9 e10
  rw [show 8 + 1 + (k + 191) = k + 200 by omega] at g1
  have g1' : f_X4_passes_5_L2 (k + 200) (k + 200) 0 (A, B) = _ := g1
  refine ⟨A2, ?_, g2⟩
  unfold f_X4_passes_5
  rw [g1', p_bs]
theorem pr5 (k o : Nat) (ho : o ≤ 100) (A : Nat → Nat → Int32) (B : Nat → Nat → Int64) (e9 : A 0 9 = 0) (e10 : A 0 10 = Int32.ofNat o) : ∃ A2, f_X4_passes_5 (A, B) (k + 200) = some (A2, B) ∧ (∀ z, A2 7 z = if z < 8 then A 14 (o + z) else A 7 z) ∧ A2 0 10 = Int32.ofNat (o + 8) ∧ (∀ z, z ≠ 10 → A2 0 z = A 0 z) ∧ ∀ r, r ≠ 0 → r ≠ 7 → A2 r = A r := by
  obtain ⟨q, A2, g1, g2, g3⟩ := l_pr5 k o ho B 8 0 (k + 191) A (by decide) e9 e10
  rw [show 8 + 1 + (k + 191) = k + 200 by omega] at g1
  have g1' : f_X4_passes_5_L2 (k + 200) (k + 200) 0 (A, B) = _ := g1
  refine ⟨A2, ?_, fun z => ?_, g3⟩
  · unfold f_X4_passes_5
    rw [g1', p_bs]
  · rw [g2 z]
    by_cases h : z < 8
    · rw [if_pos h, if_pos ⟨by omega, h⟩]
    · rw [if_neg h, if_neg (by omega)]
theorem l_pk6 (k o : Nat) (ho : o ≤ 100) (B : Nat → Nat → Int64) : ∀ (m x j : Nat) (A : Nat → Nat → Int32), x + m = 8 → A 0 9 = 1 → A 0 10 = Int32.ofNat (o + x) → ∃ q A2, f_X4_passes_6_L2 (k + 200) (m + 1 + j) (Int32.ofNat x) (A, B) = some (q, (A2, B)) ∧ (∀ z, A2 14 z = if o + x ≤ z ∧ z < o + 8 then A 8 (z - o) else A 14 z) ∧ A2 0 10 = Int32.ofNat (o + 8) ∧ (∀ z, z ≠ 10 → A2 0 z = A 0 z) ∧ ∀ r, r ≠ 0 → r ≠ 14 → A2 r = A r := by
  intro m
  induction m with
  | zero =>
    intro x j A h e9 e10
    obtain rfl : x = 8 := by omega
    refine ⟨Int32.ofNat 8, A, ?_, fun z => by rw [if_neg (by omega)], e10, fun _ _ => rfl, fun _ _ _ => rfl⟩
    rw [show 0 + 1 + j = j + 1 by omega, f_X4_passes_6_L2, if_pos (by decide)]
  | succ m ih =>
    intro x j A h e9 e10
    have hb := p_nbi (i := x) (n := 8) (by omega) (by decide)
    have hb2 := p_nbi (i := o + x) (n := 120) (by omega) (by decide)
    have hl : ¬ (8 : Int32) ≤ Int32.ofNat x := fun z => by have := (p_le (a := 8) (by omega) (by omega)).mp z; omega
    have h9 : ¬ A 0 9 = 0 := by rw [e9]; decide
    obtain ⟨q, A2, g1, g2, g3, g4, g5⟩ := ih (x + 1) j (kE (kE A 0 10 (Int32.ofNat (o + (x + 1)))) 14 (o + x) (A 8 x)) (by omega) e9 rfl
    refine ⟨q, A2, ?_, fun z => ?_, g3, fun z hz => ?_, fun r hr hr2 => ?_⟩
    · have hb2A : ¬ (A 0 10 < 0 ∨ 120 ≤ Int32.toNatClampNeg (A 0 10)) := by rw [e10, p_tn (by omega)]; exact hb2
      rw [show m + 1 + 1 + j = (m + 1 + j) + 1 by omega, f_X4_passes_6_L2, if_neg hl]
      dsimp only
      rw [if_neg h9, p_tn (by omega), if_neg hb, if_neg hb2A, e10, p_tn (by omega), ← p_succ, ← p_succ]
      exact g1
    · have h14 : ∀ z, kE (kE A 0 10 (Int32.ofNat (o + (x + 1)))) 14 (o + x) (A 8 x) 14 z = if z = o + x then A 8 x else A 14 z := fun z => by
        rw [kE_at]
        by_cases h : z = o + x
        · rw [if_pos ⟨rfl, h⟩, if_pos h]
        · rw [if_neg (fun t => h t.2), if_neg h, kE_at, if_neg (by omega)]
      have hrow : ∀ z, kE (kE A 0 10 (Int32.ofNat (o + (x + 1)))) 14 (o + x) (A 8 x) 8 z = A 8 z := fun z => by
        rw [kE_at, if_neg (by omega), kE_at, if_neg (by omega)]
      rw [g2 z, h14, hrow]
      by_cases h1 : z = o + x
      · subst h1
        rw [if_neg (by omega), if_pos rfl, if_pos ⟨by omega, by omega⟩, Nat.add_sub_cancel_left]
      · by_cases h2 : o + (x + 1) ≤ z ∧ z < o + 8
        · rw [if_pos h2, if_pos ⟨by omega, h2.2⟩]
        · rw [if_neg h2, if_neg h1, if_neg (by omega)]
    · rw [g4 z hz, kE_at, if_neg (by omega), kE_at, if_neg (by omega)]
    · rw [g5 r hr hr2]
      show (if r = 14 then _ else (if r = 0 then _ else A r)) = _
      rw [if_neg hr2, if_neg hr]
theorem l_pr6 (k o : Nat) (ho : o ≤ 100) (B : Nat → Nat → Int64) : ∀ (m x j : Nat) (A : Nat → Nat → Int32), x + m = 8 → A 0 9 = 0 → A 0 10 = Int32.ofNat (o + x) → ∃ q A2, f_X4_passes_6_L2 (k + 200) (m + 1 + j) (Int32.ofNat x) (A, B) = some (q, (A2, B)) ∧ (∀ z, A2 8 z = if x ≤ z ∧ z < 8 then A 14 (o + z) else A 8 z) ∧ A2 0 10 = Int32.ofNat (o + 8) ∧ (∀ z, z ≠ 10 → A2 0 z = A 0 z) ∧ ∀ r, r ≠ 0 → r ≠ 8 → A2 r = A r := by
  intro m
  induction m with
  | zero =>
    intro x j A h e9 e10
    obtain rfl : x = 8 := by omega
    refine ⟨Int32.ofNat 8, A, ?_, fun z => by rw [if_neg (by omega)], e10, fun _ _ => rfl, fun _ _ _ => rfl⟩
    rw [show 0 + 1 + j = j + 1 by omega, f_X4_passes_6_L2, if_pos (by decide)]
  | succ m ih =>
    intro x j A h e9 e10
    have hb := p_nbi (i := x) (n := 8) (by omega) (by decide)
    have hb2 := p_nbi (i := o + x) (n := 120) (by omega) (by decide)
    have hl : ¬ (8 : Int32) ≤ Int32.ofNat x := fun z => by have := (p_le (a := 8) (by omega) (by omega)).mp z; omega
    obtain ⟨q, A2, g1, g2, g3, g4, g5⟩ := ih (x + 1) j (kE (kE A 0 10 (Int32.ofNat (o + (x + 1)))) 8 x (A 14 (o + x))) (by omega) e9 rfl
    refine ⟨q, A2, ?_, fun z => ?_, g3, fun z hz => ?_, fun r hr hr2 => ?_⟩
    · have hb2A : ¬ (A 0 10 < 0 ∨ 120 ≤ Int32.toNatClampNeg (A 0 10)) := by rw [e10, p_tn (by omega)]; exact hb2
      rw [show m + 1 + 1 + j = (m + 1 + j) + 1 by omega, f_X4_passes_6_L2, if_neg hl]
      dsimp only
      rw [if_pos e9, if_neg hb2A, p_tn (by omega), if_neg hb, e10, p_tn (by omega), ← p_succ, ← p_succ]
      exact g1
    · have hrow : ∀ z, kE (kE A 0 10 (Int32.ofNat (o + (x + 1)))) 8 x (A 14 (o + x)) 8 z = if z = x then A 14 (o + x) else A 8 z := fun z => by
        rw [kE_at]
        by_cases h : z = x
        · rw [if_pos ⟨rfl, h⟩, if_pos h]
        · rw [if_neg (fun t => h t.2), if_neg h, kE_at, if_neg (by omega)]
      have h14 : ∀ z, kE (kE A 0 10 (Int32.ofNat (o + (x + 1)))) 8 x (A 14 (o + x)) 14 z = A 14 z := fun z => by
        rw [kE_at, if_neg (by omega), kE_at, if_neg (by omega)]
      rw [g2 z, h14, hrow]
      by_cases h1 : z = x
      · subst h1
        rw [if_neg (by omega), if_pos rfl, if_pos ⟨by omega, by omega⟩]
      · by_cases h2 : x + 1 ≤ z ∧ z < 8
        · rw [if_pos h2, if_pos ⟨by omega, h2.2⟩]
        · rw [if_neg h2, if_neg h1, if_neg (by omega)]
    · rw [g4 z hz, kE_at, if_neg (by omega), kE_at, if_neg (by omega)]
    · rw [g5 r hr hr2]
      show (if r = 8 then _ else (if r = 0 then _ else A r)) = _
      rw [if_neg hr2, if_neg hr]
theorem pk6 (k o : Nat) (ho : o ≤ 100) (A : Nat → Nat → Int32) (B : Nat → Nat → Int64) (e9 : A 0 9 = 1) (e10 : A 0 10 = Int32.ofNat o) : ∃ A2, f_X4_passes_6 (A, B) (k + 200) = some (A2, B) ∧ (∀ z, A2 14 z = if o ≤ z ∧ z < o + 8 then A 8 (z - o) else A 14 z) ∧ A2 0 10 = Int32.ofNat (o + 8) ∧ (∀ z, z ≠ 10 → A2 0 z = A 0 z) ∧ ∀ r, r ≠ 0 → r ≠ 14 → A2 r = A r := by
  obtain ⟨q, A2, g1, g2⟩ := l_pk6 k o ho B 8 0 (k + 191) A (by decide) e9 e10
  rw [show 8 + 1 + (k + 191) = k + 200 by omega] at g1
  have g1' : f_X4_passes_6_L2 (k + 200) (k + 200) 0 (A, B) = _ := g1
  refine ⟨A2, ?_, g2⟩
  unfold f_X4_passes_6
  rw [g1', p_bs]
theorem pr6 (k o : Nat) (ho : o ≤ 100) (A : Nat → Nat → Int32) (B : Nat → Nat → Int64) (e9 : A 0 9 = 0) (e10 : A 0 10 = Int32.ofNat o) : ∃ A2, f_X4_passes_6 (A, B) (k + 200) = some (A2, B) ∧ (∀ z, A2 8 z = if z < 8 then A 14 (o + z) else A 8 z) ∧ A2 0 10 = Int32.ofNat (o + 8) ∧ (∀ z, z ≠ 10 → A2 0 z = A 0 z) ∧ ∀ r, r ≠ 0 → r ≠ 8 → A2 r = A r := by
  obtain ⟨q, A2, g1, g2, g3⟩ := l_pr6 k o ho B 8 0 (k + 191) A (by decide) e9 e10
  rw [show 8 + 1 + (k + 191) = k + 200 by omega] at g1
  have g1' : f_X4_passes_6_L2 (k + 200) (k + 200) 0 (A, B) = _ := g1
  refine ⟨A2, ?_, fun z => ?_, g3⟩
  · unfold f_X4_passes_6
    rw [g1', p_bs]
  · rw [g2 z]
    by_cases h : z < 8
    · rw [if_pos h, if_pos ⟨by omega, h⟩]
    · rw [if_neg h, if_neg (by omega)]
theorem l_pk7 (k o : Nat) (ho : o ≤ 100) (B : Nat → Nat → Int64) : ∀ (m x j : Nat) (A : Nat → Nat → Int32), x + m = 4 → A 0 9 = 1 → A 0 10 = Int32.ofNat (o + x) → ∃ q A2, f_X4_passes_7_L2 (k + 200) (m + 1 + j) (Int32.ofNat x) (A, B) = some (q, (A2, B)) ∧ (∀ z, A2 14 z = if o + x ≤ z ∧ z < o + 4 then A 9 (z - o) else A 14 z) ∧ A2 0 10 = Int32.ofNat (o + 4) ∧ (∀ z, z ≠ 10 → A2 0 z = A 0 z) ∧ ∀ r, r ≠ 0 → r ≠ 14 → A2 r = A r := by
  intro m
  induction m with
  | zero =>
    intro x j A h e9 e10
    obtain rfl : x = 4 := by omega
    refine ⟨Int32.ofNat 4, A, ?_, fun z => by rw [if_neg (by omega)], e10, fun _ _ => rfl, fun _ _ _ => rfl⟩
    rw [show 0 + 1 + j = j + 1 by omega, f_X4_passes_7_L2, if_pos (by decide)]
  | succ m ih =>
    intro x j A h e9 e10
    have hb := p_nbi (i := x) (n := 4) (by omega) (by decide)
    have hb2 := p_nbi (i := o + x) (n := 120) (by omega) (by decide)
    have hl : ¬ (4 : Int32) ≤ Int32.ofNat x := fun z => by have := (p_le (a := 4) (by omega) (by omega)).mp z; omega
    have h9 : ¬ A 0 9 = 0 := by rw [e9]; decide
    obtain ⟨q, A2, g1, g2, g3, g4, g5⟩ := ih (x + 1) j (kE (kE A 0 10 (Int32.ofNat (o + (x + 1)))) 14 (o + x) (A 9 x)) (by omega) e9 rfl
    refine ⟨q, A2, ?_, fun z => ?_, g3, fun z hz => ?_, fun r hr hr2 => ?_⟩
    · have hb2A : ¬ (A 0 10 < 0 ∨ 120 ≤ Int32.toNatClampNeg (A 0 10)) := by rw [e10, p_tn (by omega)]; exact hb2
      rw [show m + 1 + 1 + j = (m + 1 + j) + 1 by omega, f_X4_passes_7_L2, if_neg hl]
      dsimp only
      rw [if_neg h9, p_tn (by omega), if_neg hb, if_neg hb2A, e10, p_tn (by omega), ← p_succ, ← p_succ]
      exact g1
    · have h14 : ∀ z, kE (kE A 0 10 (Int32.ofNat (o + (x + 1)))) 14 (o + x) (A 9 x) 14 z = if z = o + x then A 9 x else A 14 z := fun z => by
        rw [kE_at]
        by_cases h : z = o + x
        · rw [if_pos ⟨rfl, h⟩, if_pos h]
        · rw [if_neg (fun t => h t.2), if_neg h, kE_at, if_neg (by omega)]
      have hrow : ∀ z, kE (kE A 0 10 (Int32.ofNat (o + (x + 1)))) 14 (o + x) (A 9 x) 9 z = A 9 z := fun z => by
        rw [kE_at, if_neg (by omega), kE_at, if_neg (by omega)]
      rw [g2 z, h14, hrow]
      by_cases h1 : z = o + x
      · subst h1
        rw [if_neg (by omega), if_pos rfl, if_pos ⟨by omega, by omega⟩, Nat.add_sub_cancel_left]
      · by_cases h2 : o + (x + 1) ≤ z ∧ z < o + 4
        · rw [if_pos h2, if_pos ⟨by omega, h2.2⟩]
        · rw [if_neg h2, if_neg h1, if_neg (by omega)]
    · rw [g4 z hz, kE_at, if_neg (by omega), kE_at, if_neg (by omega)]
    · rw [g5 r hr hr2]
      show (if r = 14 then _ else (if r = 0 then _ else A r)) = _
      rw [if_neg hr2, if_neg hr]
theorem l_pr7 (k o : Nat) (ho : o ≤ 100) (B : Nat → Nat → Int64) : ∀ (m x j : Nat) (A : Nat → Nat → Int32), x + m = 4 → A 0 9 = 0 → A 0 10 = Int32.ofNat (o + x) → ∃ q A2, f_X4_passes_7_L2 (k + 200) (m + 1 + j) (Int32.ofNat x) (A, B) = some (q, (A2, B)) ∧ (∀ z, A2 9 z = if x ≤ z ∧ z < 4 then A 14 (o + z) else A 9 z) ∧ A2 0 10 = Int32.ofNat (o + 4) ∧ (∀ z, z ≠ 10 → A2 0 z = A 0 z) ∧ ∀ r, r ≠ 0 → r ≠ 9 → A2 r = A r := by
  intro m
  induction m with
  | zero =>
    intro x j A h e9 e10
    obtain rfl : x = 4 := by omega
    refine ⟨Int32.ofNat 4, A, ?_, fun z => by rw [if_neg (by omega)], e10, fun _ _ => rfl, fun _ _ _ => rfl⟩
    rw [show 0 + 1 + j = j + 1 by omega, f_X4_passes_7_L2, if_pos (by decide)]
  | succ m ih =>
    intro x j A h e9 e10
    have hb := p_nbi (i := x) (n := 4) (by omega) (by decide)
    have hb2 := p_nbi (i := o + x) (n := 120) (by omega) (by decide)
    have hl : ¬ (4 : Int32) ≤ Int32.ofNat x := fun z => by have := (p_le (a := 4) (by omega) (by omega)).mp z; omega
    obtain ⟨q, A2, g1, g2, g3, g4, g5⟩ := ih (x + 1) j (kE (kE A 0 10 (Int32.ofNat (o + (x + 1)))) 9 x (A 14 (o + x))) (by omega) e9 rfl
    refine ⟨q, A2, ?_, fun z => ?_, g3, fun z hz => ?_, fun r hr hr2 => ?_⟩
    · have hb2A : ¬ (A 0 10 < 0 ∨ 120 ≤ Int32.toNatClampNeg (A 0 10)) := by rw [e10, p_tn (by omega)]; exact hb2
      rw [show m + 1 + 1 + j = (m + 1 + j) + 1 by omega, f_X4_passes_7_L2, if_neg hl]
      dsimp only
      rw [if_pos e9, if_neg hb2A, p_tn (by omega), if_neg hb, e10, p_tn (by omega), ← p_succ, ← p_succ]
      exact g1
    · have hrow : ∀ z, kE (kE A 0 10 (Int32.ofNat (o + (x + 1)))) 9 x (A 14 (o + x)) 9 z = if z = x then A 14 (o + x) else A 9 z := fun z => by
        rw [kE_at]
        by_cases h : z = x
        · rw [if_pos ⟨rfl, h⟩, if_pos h]
        · rw [if_neg (fun t => h t.2), if_neg h, kE_at, if_neg (by omega)]
      have h14 : ∀ z, kE (kE A 0 10 (Int32.ofNat (o + (x + 1)))) 9 x (A 14 (o + x)) 14 z = A 14 z := fun z => by
        rw [kE_at, if_neg (by omega), kE_at, if_neg (by omega)]
      rw [g2 z, h14, hrow]
      by_cases h1 : z = x
      · subst h1
        rw [if_neg (by omega), if_pos rfl, if_pos ⟨by omega, by omega⟩]
      · by_cases h2 : x + 1 ≤ z ∧ z < 4
        · rw [if_pos h2, if_pos ⟨by omega, h2.2⟩]
        · rw [if_neg h2, if_neg h1, if_neg (by omega)]
    · rw [g4 z hz, kE_at, if_neg (by omega), kE_at, if_neg (by omega)]
    · rw [g5 r hr hr2]
      show (if r = 9 then _ else (if r = 0 then _ else A r)) = _
      rw [if_neg hr2, if_neg hr]
theorem pk7 (k o : Nat) (ho : o ≤ 100) (A : Nat → Nat → Int32) (B : Nat → Nat → Int64) (e9 : A 0 9 = 1) (e10 : A 0 10 = Int32.ofNat o) : ∃ A2, f_X4_passes_7 (A, B) (k + 200) = some (A2, B) ∧ (∀ z, A2 14 z = if o ≤ z ∧ z < o + 4 then A 9 (z - o) else A 14 z) ∧ A2 0 10 = Int32.ofNat (o + 4) ∧ (∀ z, z ≠ 10 → A2 0 z = A 0 z) ∧ ∀ r, r ≠ 0 → r ≠ 14 → A2 r = A r := by
  obtain ⟨q, A2, g1, g2⟩ := l_pk7 k o ho B 4 0 (k + 195) A (by decide) e9 e10
  rw [show 4 + 1 + (k + 195) = k + 200 by omega] at g1
  have g1' : f_X4_passes_7_L2 (k + 200) (k + 200) 0 (A, B) = _ := g1
  refine ⟨A2, ?_, g2⟩
  unfold f_X4_passes_7
  rw [g1', p_bs]
theorem pr7 (k o : Nat) (ho : o ≤ 100) (A : Nat → Nat → Int32) (B : Nat → Nat → Int64) (e9 : A 0 9 = 0) (e10 : A 0 10 = Int32.ofNat o) : ∃ A2, f_X4_passes_7 (A, B) (k + 200) = some (A2, B) ∧ (∀ z, A2 9 z = if z < 4 then A 14 (o + z) else A 9 z) ∧ A2 0 10 = Int32.ofNat (o + 4) ∧ (∀ z, z ≠ 10 → A2 0 z = A 0 z) ∧ ∀ r, r ≠ 0 → r ≠ 9 → A2 r = A r := by
  obtain ⟨q, A2, g1, g2, g3⟩ := l_pr7 k o ho B 4 0 (k + 195) A (by decide) e9 e10
  rw [show 4 + 1 + (k + 195) = k + 200 by omega] at g1
  have g1' : f_X4_passes_7_L2 (k + 200) (k + 200) 0 (A, B) = _ := g1
  refine ⟨A2, ?_, fun z => ?_, g3⟩
  · unfold f_X4_passes_7
    rw [g1', p_bs]
  · rw [g2 z]
    by_cases h : z < 4
    · rw [if_pos h, if_pos ⟨by omega, h⟩]
    · rw [if_neg h, if_neg (by omega)]
