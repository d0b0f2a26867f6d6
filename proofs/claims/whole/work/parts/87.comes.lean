/-! a statement comes, on both sides -/
theorem KR.c1 {K K2 A A2 : Nat → Nat → Int32} (R : KR K A) (e : ∀ r, r < 9 → K2 r = K r) (f : ∀ r i, r < 9 → i < 8 → (r = 0 → i < 5) → mK A2 r i = mK A r i) : KR K2 A2 := ⟨R.1.congrP (fun r i h _ _ => by rw [e r h]) f, R.2.congrP (fun r i h _ _ => by rw [e r h])⟩
theorem KR.c2 {K K2 A : Nat → Nat → Int32} (R : KR K A) (e : ∀ r, r < 9 → K2 r = K r) : KR K2 A := R.c1 e (fun _ _ _ _ _ => rfl)
theorem KR.jug {K A : Nat → Nat → Int32} (R : KR K A) (B : Nat → Nat → Int64) (p : Int32) : f_X4_isJug (A, B) p = decide (jIn (K 0 0) p) := by
  have h := R.2.1
  have e : K 0 0 = A 0 0 := R.1.1.1
  unfold f_X4_isJug jIn
  dsimp only
  split
  · symm; apply decide_eq_false; grind
  · split
    · symm; apply decide_eq_false; grind
    · symm; apply decide_eq_true; grind
theorem KR.in0 {K A : Nat → Nat → Int32} (R : KR K A) : jIn (K 0 0) (K 0 1) ↔ ¬ A 0 0 = 0 := by
  have h := R.2.1
  have e : K 0 0 = A 0 0 := R.1.1.1
  rw [← e]
  unfold jIn
  constructor
  · rintro ⟨h1, h2, h3⟩ h4
    grind
  · intro h4
    refine ⟨?_, ?_, ?_⟩ <;> grind
theorem kR1_kP (C K : Nat → Nat → Int32) : ∀ r, r < 9 → kR (kP C 1 K) 1 r = K r := fun r hr => by
  show kP C 1 K (10 * 1 + r) = K r
  unfold kP
  rw [if_pos (by omega), show 10 * 1 + r - 10 * 1 = r by omega]
theorem kR1_kS (C : Nat → Nat → Int32) (a : Nat) (X : Nat → Int32) : ∀ r, kR (kS C (10 + a) X) 1 r = kS (kR C 1) a X r := fun r => by
  show (if 10 * 1 + r = 10 + a then X else C (10 * 1 + r)) = (if r = a then X else C (10 * 1 + r))
  by_cases h : r = a
  · rw [if_pos h, if_pos (by omega)]
  · rw [if_neg h, if_neg (by omega)]
theorem kP1_o (C K : Nat → Nat → Int32) : ∀ r, ¬ (10 ≤ r ∧ r < 20) → kP C 1 K r = C r := fun r hr => by
  unfold kP
  rw [if_neg (by omega)]
theorem kS_o (C : Nat → Nat → Int32) (a : Nat) (X : Nat → Int32) (ha : 10 ≤ a ∧ a < 20) : ∀ r, ¬ (10 ≤ r ∧ r < 20) → kS C a X r = C r := fun r hr => by
  show (if r = a then X else C r) = _
  rw [if_neg (by omega)]
def CM (S : ST) (A : Nat → Nat → Int32) (B : Nat → Nat → Int64) (X : Option (Bool × (Nat → Nat → Nat) × ST)) (Y : Option (Bool × ST)) : Prop := ∃ ok y' S' A', X = some (ok, y', S') ∧ Y = some (ok, (A', B)) ∧ (ok = true → KR (kR S'.1 1) A') ∧ (∀ r, ¬ (10 ≤ r ∧ r < 20) → S'.1 r = S.1 r) ∧ (∀ r, ¬ (r = 0 ∨ (2 ≤ r ∧ r ≤ 9)) → A' r = A r) ∧ ∀ z, 5 ≤ z → A' 0 z = A 0 z
theorem CM.no {S : ST} {A : Nat → Nat → Int32} {B : Nat → Nat → Int64} {y : Nat → Nat → Nat} {S2 : ST} (h : ∀ r, ¬ (10 ≤ r ∧ r < 20) → S2.1 r = S.1 r) : CM S A B (some (false, y, S2)) (some (false, (A, B))) := ⟨false, y, S2, A, rfl, rfl, (fun z => by cases z), h, fun _ _ => rfl, fun _ _ => rfl⟩
theorem aE {A : Nat → Nat → Int32} {a j : Nat} {v : Int32} (ha : (2 ≤ a ∧ a ≤ 9) ∨ (a = 0 ∧ j < 5)) : (∀ r, ¬ (r = 0 ∨ (2 ≤ r ∧ r ≤ 9)) → kE A a j v r = A r) ∧ ∀ z, 5 ≤ z → kE A a j v 0 z = A 0 z := by
  refine ⟨fun r hr => ?_, fun z hz => ?_⟩
  · show (if r = a then _ else A r) = _
    rw [if_neg (by omega)]
  · rw [kE_at, if_neg (by omega)]
theorem cm_cold {S : ST} {A : Nat → Nat → Int32} (B : Nat → Nat → Int64) (R : KR (kR S.1 1) A) (k : Nat) (y : Nat → Nat → Nat) {h : Int32} (hh : 0 ≤ h ∧ h ≤ 99) : CM S A B ((f_X1_standInCold (kR S.1 1) h (k + 200)).bind fun v1 => some (true, y, ((kP S.1 1 v1), S.2))) ((f_X4_allStand (A, B) h (k + 200)).bind fun v1 => some (true, v1)) := by
  obtain ⟨K2, A2, h1, h2, h3, h4, h5⟩ := kr_cold R k hh B
  rw [h1, p_bs, h2, p_bs]
  exact ⟨true, y, _, A2, rfl, rfl, fun _ => h3.c2 (kR1_kP S.1 K2), kP1_o S.1 K2, fun r hr => h5 r (by omega), fun z _ => by rw [h5 0 (by decide)]⟩
theorem cm_hand {S : ST} {A : Nat → Nat → Int32} (B : Nat → Nat → Int64) (R : KR (kR S.1 1) A) (y : Nat → Nat → Nat) (d : Int32) : CM S A B (some (((f_X1_takeInHand (S.1 10 0) (S.1 10 1) (S.1 10 2) d).1), y, ((kS S.1 10 (upd (upd (S.1 10) 1 ((f_X1_takeInHand (S.1 10 0) (S.1 10 1) (S.1 10 2) d).2.1)) 2 ((f_X1_takeInHand (S.1 10 0) (S.1 10 1) (S.1 10 2) d).2.2))), S.2))) (if (b2i (f_X4_isJug (A, B) d)) = 0 then some (false, (A, B)) else some (true, ((kS A 0 (upd (upd (A 0) 1 d) 2 0)), B))) := by
  have hK : kR S.1 1 0 = S.1 10 := rfl
  rw [R.jug B d, hK]
  unfold f_X1_takeInHand
  by_cases hj : jIn (S.1 10 0) d
  · simp only [if_pos hj]
    rw [if_neg (fun z => b2i_dec.mp z hj)]
    have h1 := (R.uHand d ⟨by have := hj.1; grind, Or.inl (by have := hj.2.1; rw [hK]; grind)⟩).uSeen 0 (by decide)
    refine ⟨true, y, _, kE (kE A 0 1 d) 0 2 0, rfl, by rw [kE2], fun _ => h1.c2 (fun r _ => ?_), kS_o S.1 10 _ (by omega), fun r hr => ?_, fun z hz => ?_⟩
    · rw [kR1_kS S.1 0, ← kE2]
      rfl
    · exact ((aE (A := kE A 0 1 d) (a := 0) (j := 2) (v := 0) (Or.inr (by decide))).1 r hr).trans ((aE (Or.inr (by decide))).1 r hr)
    · exact ((aE (A := kE A 0 1 d) (a := 0) (j := 2) (v := 0) (Or.inr (by decide))).2 z hz).trans ((aE (Or.inr (by decide))).2 z hz)
  · simp only [if_neg hj]
    rw [if_pos (b2i_dec.mpr hj)]
    exact CM.no (kS_o S.1 10 _ (by omega))
theorem cm_price {S : ST} {A : Nat → Nat → Int32} (B : Nat → Nat → Int64) (R : KR (kR S.1 1) A) (y : Nat → Nat → Nat) {d : Int32} (hd : 0 ≤ d ∧ d ≤ 9) : CM S A B (some (true, y, ((kS S.1 10 (upd (S.1 10) 3 d)), S.2))) (some (true, ((kS A 0 (upd (A 0) 4 d)), B))) := by
  refine ⟨true, y, _, kE A 0 4 d, rfl, rfl, fun _ => (R.uPrice d hd).c2 (fun r _ => ?_), kS_o S.1 10 _ (by omega), (aE (Or.inr (by decide))).1, (aE (Or.inr (by decide))).2⟩
  rw [kR1_kS S.1 0]
  rfl
theorem cm_seen {S : ST} {A : Nat → Nat → Int32} (B : Nat → Nat → Int64) (R : KR (kR S.1 1) A) (k : Nat) (y : Nat → Nat → Nat) {d f : Int32} (hd : 0 ≤ d ∧ d ≤ 9) (hf : 0 ≤ f ∧ f ≤ 9) : CM S A B (some (((f_X1_addSeen (S.1 10 0) (S.1 10 1) (S.1 10 2) (S.1 11) (S.1 12) d f).1), y, ((kS (kS (kS S.1 10 (upd (S.1 10) 2 ((f_X1_addSeen (S.1 10 0) (S.1 10 1) (S.1 10 2) (S.1 11) (S.1 12) d f).2.1))) 11 ((f_X1_addSeen (S.1 10 0) (S.1 10 1) (S.1 10 2) (S.1 11) (S.1 12) d f).2.2.1)) 12 ((f_X1_addSeen (S.1 10 0) (S.1 10 1) (S.1 10 2) (S.1 11) (S.1 12) d f).2.2.2)), S.2))) ((f_X4_comesSeen (A, B) d f (k + 200)).bind fun v3 => some (v3.1, v3.2)) := by
  have hfr : ∀ (a b c : Nat → Int32) (B2 : Nat → Nat → Int64), ∀ r, ¬ (10 ≤ r ∧ r < 20) → ((kS (kS (kS S.1 10 a) 11 b) 12 c, B2) : ST).1 r = S.1 r := fun a b c B2 r hr => by
    show (if r = 12 then _ else (if r = 11 then _ else (if r = 10 then _ else S.1 r))) = _
    rw [if_neg (by omega), if_neg (by omega), if_neg (by omega)]
  have e : A 0 2 = S.1 10 2 := R.1.1.2.2.1.symm
  have g : 0 ≤ S.1 10 2 ∧ S.1 10 2 ≤ 8 := R.2.1.2.2.1
  have hin := R.in0
  have hin' : jIn (S.1 10 0) (S.1 10 1) ↔ ¬ A 0 0 = 0 := hin
  unfold f_X4_comesSeen
  rw [p_bp]
  dsimp only
  have hno : (f_X1_addSeen (S.1 10 0) (S.1 10 1) (S.1 10 2) (S.1 11) (S.1 12) d f).1 = false → CM S A B (some (((f_X1_addSeen (S.1 10 0) (S.1 10 1) (S.1 10 2) (S.1 11) (S.1 12) d f).1), y, ((kS (kS (kS S.1 10 (upd (S.1 10) 2 ((f_X1_addSeen (S.1 10 0) (S.1 10 1) (S.1 10 2) (S.1 11) (S.1 12) d f).2.1))) 11 ((f_X1_addSeen (S.1 10 0) (S.1 10 1) (S.1 10 2) (S.1 11) (S.1 12) d f).2.2.1)) 12 ((f_X1_addSeen (S.1 10 0) (S.1 10 1) (S.1 10 2) (S.1 11) (S.1 12) d f).2.2.2)), S.2))) (some (false, (A, B))) := fun h => by
    rw [h]
    exact CM.no (hfr _ _ _ _)
  by_cases h1 : 4 ≤ d
  · rw [if_pos h1]
    refine hno ?_
    unfold f_X1_addSeen
    have : f_X3_isOneOf d 4 = false := by
      cases h : f_X3_isOneOf d 4
      · rfl
      · have := (one_iff.mp h).2; grind
    rw [this]
    split <;> rfl
  · rw [if_neg h1]
    have h14 : f_X3_isOneOf d 4 = true := one_iff.mpr ⟨hd.1, by grind⟩
    by_cases h2 : 1 < f
    · rw [if_pos h2]
      refine hno ?_
      unfold f_X1_addSeen
      have : f_X3_isOneOf f 2 = false := by
        cases h : f_X3_isOneOf f 2
        · rfl
        · have := (one_iff.mp h).2; grind
      rw [h14, this]
      split <;> rfl
    · rw [if_neg h2]
      have h22 : f_X3_isOneOf f 2 = true := one_iff.mpr ⟨hf.1, by grind⟩
      by_cases h3 : A 0 0 = 0
      · rw [if_pos h3]
        refine hno ?_
        unfold f_X1_addSeen
        rw [if_neg (fun z => hin'.mp z h3)]
      · rw [if_neg h3]
        have hj := hin'.mpr h3
        by_cases h4 : S.1 10 2 = 8
        · rw [if_pos (show A 0 2 = 8 from e.trans h4)]
          refine hno ?_
          unfold f_X1_addSeen
          have : f_X3_isOneOf (S.1 10 2) 8 = false := by rw [h4]; decide
          rw [if_pos hj, h14, h22, this]
          rfl
        · have h5 : f_X3_isOneOf (S.1 10 2) 8 = true := one_iff.mpr ⟨g.1, by have := g.2; grind⟩
          have h6 := one_iff.mp h5
          have hb := p_nb (n := 8) (by decide) h6.1 h6.2
          rw [if_neg (show ¬ A 0 2 = 8 from fun z => h4 (e.symm.trans z))]
          unfold f_X4_sees f_X1_addSeen
          dsimp only
          simp only [if_pos hj, h14, h22, h5, b2i_t0, if_false]
          simp only [e]
          rw [if_neg hb, if_neg hb, p_bs]
          have h7 := ((R.uSeen (S.1 10 2 + 1) (by have := h6.1; have := h6.2; constructor <;> grind)).uTest (Int32.toNatClampNeg (S.1 10 2)) d (one_iff.mp h14)).uOff (Int32.toNatClampNeg (S.1 10 2)) f (one_iff.mp h22)
          refine ⟨true, y, _, kE (kE (kE A 0 2 (S.1 10 2 + 1)) 7 (Int32.toNatClampNeg (S.1 10 2)) d) 8 (Int32.toNatClampNeg (S.1 10 2)) f, rfl, rfl, fun _ => h7.c2 (fun r _ => ?_), hfr _ _ _ _, fun r hr => ?_, fun z hz => ?_⟩
          · rw [kR1_kS _ 2]
            show (if r = 2 then _ else kR (kS (kS S.1 10 _) 11 _) 1 r) = _
            rw [kR1_kS _ 1]
            show (if r = 2 then _ else (if r = 1 then _ else kR (kS S.1 10 _) 1 r)) = _
            rw [kR1_kS _ 0]
            rfl
          · show (if r = 8 then _ else (if r = 7 then _ else (if r = 0 then _ else A r))) = _
            rw [if_neg (by omega), if_neg (by omega), if_neg (by omega)]
          · rw [kE_at, if_neg (by omega), kE_at, if_neg (by omega), kE_at, if_neg (by omega)]
theorem cm_cost {S : ST} {A : Nat → Nat → Int32} (B : Nat → Nat → Int64) (R : KR (kR S.1 1) A) (y : Nat → Nat → Nat) {d f : Int32} (hd : 0 ≤ d ∧ d ≤ 9) (hf : 0 ≤ f ∧ f ≤ 9) : CM S A B (some (((f_X1_setCost (S.1 13) d f).1), y, ((kS S.1 13 ((f_X1_setCost (S.1 13) d f).2)), S.2))) (if d < 4 then if d < 0 ∨ 4 ≤ (Int32.toNatClampNeg d) then none else some (true, ((kS A 6 (upd (A 6) (Int32.toNatClampNeg d) f)), B)) else some (false, (A, B))) := by
  unfold f_X1_setCost
  by_cases h1 : d < 4
  · have h14 : f_X3_isOneOf d 4 = true := one_iff.mpr ⟨hd.1, h1⟩
    simp only [h14, b2i_t0, if_false, if_pos h1, if_neg (p_nb (n := 4) (by decide) hd.1 h1)]
    refine ⟨true, y, _, kE A 6 (Int32.toNatClampNeg d) f, rfl, rfl, fun _ => (R.uCost (Int32.toNatClampNeg d) f hf).c2 (fun r _ => ?_), kS_o S.1 13 _ (by omega), (aE (Or.inl (by decide))).1, (aE (Or.inl (by decide))).2⟩
    rw [kR1_kS S.1 3]
    rfl
  · have h14 : f_X3_isOneOf d 4 = false := by
      cases h : f_X3_isOneOf d 4
      · rfl
      · exact absurd (one_iff.mp h).2 h1
    simp only [h14, b2i_f0, if_true, if_neg h1]
    exact CM.no (kS_o S.1 13 _ (by omega))
theorem cm_warm {S : ST} {A : Nat → Nat → Int32} (B : Nat → Nat → Int64) (R : KR (kR S.1 1) A) (k : Nat) (y : Nat → Nat → Nat) {d h : Int32} (hd : 0 ≤ d ∧ d ≤ 9) (hh : 0 ≤ h ∧ h ≤ 99) : CM S A B (some (((f_X1_standInWarm (kR S.1 1) d h).1), y, ((kP S.1 1 ((f_X1_standInWarm (kR S.1 1) d h).2)), S.2))) (if (b2i (f_X4_isJug (A, B) d)) = 0 then some (false, (A, B)) else (f_X4_warmOf (A, B) d (k + 200)).bind fun v4 => (f_X4_gains (A, B) d (v4 * h) (k + 200)).bind fun v5 => some (true, v5)) := by
  rw [R.jug B d]
  unfold f_X1_standInWarm
  by_cases hj : jIn (kR S.1 1 0 0) d
  · simp only [if_pos hj]
    obtain ⟨j, hj5, rfl⟩ := p_ix (n := 5) (by decide) hd.1 hj.2.2
    have hlt : Int32.ofNat j < kR S.1 1 0 0 := by have := hj.2.1; grind
    have g := R.at hj5 hlt
    have hv := gain_in g.2.2.2.2 (p_prod hh (warm_in (kd := kR S.1 1 5 j) g.2.2.1))
    have hg := m_gainsG k A B hj5 (f_X0_warmPoints (A 2 j) (A 3 j) * h) (f_X0_gain (kR S.1 1 8 j) (h * f_X0_warmPoints (kR S.1 1 5 j) (kR S.1 1 6 j))) (by rw [g.1.1, g.1.2.1, g.1.2.2.2, Int32.mul_comm])
    rw [if_neg (fun z => b2i_dec.mp z hj), m_warmG k A B hj5, p_bs, hg, p_bs, p_tn (by omega)]
    refine ⟨true, y, _, kE A 5 j (f_X0_gain (kR S.1 1 8 j) (h * f_X0_warmPoints (kR S.1 1 5 j) (kR S.1 1 6 j))), rfl, rfl, fun _ => (R.uPoints j _ hv).c2 (kR1_kP S.1 _), kP1_o S.1 _, (aE (Or.inl (by decide))).1, (aE (Or.inl (by decide))).2⟩
  · simp only [if_neg hj]
    rw [if_pos (b2i_dec.mpr hj)]
    exact CM.no (kP1_o S.1 _)
theorem cm_use {S : ST} {A : Nat → Nat → Int32} (B : Nat → Nat → Int64) (R : KR (kR S.1 1) A) (k : Nat) (y : Nat → Nat → Nat) {d : Int32} (hd : 0 ≤ d ∧ d ≤ 9) : CM S A B ((f_X1_takeCupsp (y 1) (kR S.1 1) d (k + 200)).bind fun v2 => some (v2.1, (yP y 1 v2.2.1), ((kP S.1 1 v2.2.2), S.2))) ((f_X4_comesUse (A, B) d (k + 200)).bind fun v6 => some (v6.1, v6.2)) := by
  unfold f_X4_comesUse
  rw [p_bp]
  dsimp only
  have hno : f_X1_takeCupsp (y 1) (kR S.1 1) d (k + 200) = some (false, (fun i => y 1 i), kR S.1 1) → CM S A B ((f_X1_takeCupsp (y 1) (kR S.1 1) d (k + 200)).bind fun v2 => some (v2.1, (yP y 1 v2.2.1), ((kP S.1 1 v2.2.2), S.2))) (some (false, (A, B))) := fun h => by
    rw [h, p_bs]
    exact CM.no (kP1_o S.1 _)
  by_cases h0 : A 0 0 = 0
  · rw [if_pos h0]
    refine hno ?_
    unfold f_X1_takeCupsp f_X1_takeCups
    rw [if_neg (fun z => R.in0.mp z h0), p_bs]
    dsimp only
    rw [if_pos (by decide), kPm_id]
  · rw [if_neg h0]
    have hj := R.in0.mpr h0
    have hb2 : ∀ jh : Nat, jh < 5 → ¬ (Int32.ofNat jh < 0 ∨ 5 ≤ jh) := fun jh h => p_nbi h (by decide)
    obtain ⟨jh, hjh, ej⟩ := p_ix (n := 5) (by decide) (show 0 ≤ kR S.1 1 0 1 from R.2.1.2.1.1) hj.2.2
    have ej2 : A 0 1 = Int32.ofNat jh := by rw [← ej]; exact R.1.1.2.1.symm
    have hlt : Int32.ofNat jh < kR S.1 1 0 0 := by have := hj.2.1; rw [ej] at this; grind
    have g := R.at hjh hlt
    by_cases h1 : d = 0
    · rw [if_pos h1]
      refine hno ?_
      unfold f_X1_takeCupsp f_X1_takeCups
      rw [if_pos hj, if_pos (show d < 1 by rw [h1]; decide), p_bs]
      dsimp only
      rw [if_pos (by decide), kPm_id]
    · rw [if_neg h1, if_neg (show ¬ (A 0 1 < 0 ∨ 5 ≤ Int32.toNatClampNeg (A 0 1)) by rw [ej2, p_tn (by omega)]; exact hb2 jh hjh)]
      have hd1 : 1 ≤ d := by have := hd.1; grind
      by_cases h2 : d ≤ kR S.1 1 7 jh
      · obtain ⟨s, K2, A2, a1, a2, a3, a4, a5, a6⟩ := kr_use R k B hjh ej hlt ⟨hd1, h2⟩
        rw [a1, p_bs, a2, p_bs, if_pos (show d ≤ A 4 (Int32.toNatClampNeg (A 0 1)) by rw [ej2, p_tn (by omega), ← g.1.2.2.1]; exact h2)]
        exact ⟨true, _, _, A2, rfl, rfl, fun _ => a3.c2 (kR1_kP S.1 K2), kP1_o S.1 K2, fun r hr => a5 r (by omega), fun z hz => a6 z (by omega)⟩
      · rw [if_neg (show ¬ d ≤ A 4 (Int32.toNatClampNeg (A 0 1)) by rw [ej2, p_tn (by omega), ← g.1.2.2.1]; exact h2)]
        refine hno ?_
        unfold f_X1_takeCupsp f_X1_takeCups
        rw [if_pos hj, if_neg (show ¬ d < 1 by grind), if_neg (show ¬ d ≤ kR S.1 1 7 (Int32.toNatClampNeg (kR S.1 1 0 1)) by rw [ej, p_tn (by omega)]; exact h2), p_bs]
        dsimp only
        rw [if_pos (by decide), kPm_id]
