/-! ill, judge -/
def apr (T : Nat → Int32) (c : Nat) : Nat → Nat → Bool
  | 0, _ => true
  | m + 1, i => if c ≤ i then true else if T i ≤ 1 then apr T c m (i + 2) else false
theorem one2 {x : Int32} (h : 0 ≤ x) : (b2i (f_X3_isOneOf x 2) = 0) ↔ ¬ x ≤ 1 := by
  cases h2 : f_X3_isOneOf x 2
  · simp only [b2i_f0, true_iff]
    intro z
    have := one_iff.mpr (⟨h, by grind⟩ : 0 ≤ x ∧ x < 2)
    rw [h2] at this
    cases this
  · simp only [b2i_t0, false_iff, Classical.not_not]
    have := (one_iff.mp h2).2
    grind
theorem c_aprL (k : Nat) (S : ST) (c : Nat) (hc : c ≤ 12) (e : S.1 30 2 = Int32.ofNat c) (hT : ∀ i, i < 12 → 0 ≤ S.1 32 i) : ∀ (m i j : Nat), c ≤ i + 2 * m → i ≤ 30 → ∃ q, f_X3_isRowOfPairs_L13 S (k + 200) (m + 1 + j) (Int32.ofNat i) = some (if apr (S.1 32) c m i = true then .inr q else .inl false)
  | 0, i, j, h, h2 => by
    refine ⟨Int32.ofNat i, ?_⟩
    rw [show 0 + 1 + j = j + 1 by omega, f_X3_isRowOfPairs_L13, if_pos (show S.1 30 2 ≤ _ by rw [e]; exact (p_le (by omega) (by omega)).mpr (by omega)), apr, if_pos rfl]
  | m + 1, i, j, h, h2 => by
    rw [show m + 1 + 1 + j = (m + 1 + j) + 1 by omega, f_X3_isRowOfPairs_L13, apr]
    by_cases h3 : c ≤ i
    · refine ⟨Int32.ofNat i, ?_⟩
      rw [if_pos (show S.1 30 2 ≤ _ by rw [e]; exact (p_le (by omega) (by omega)).mpr (by omega)), if_pos h3, if_pos rfl]
    · rw [if_neg (show ¬ S.1 30 2 ≤ _ from fun z => by rw [e] at z; exact h3 ((p_le (by omega) (by omega)).mp z)), if_neg h3, p_at (by decide) (by omega)]
      by_cases h4 : S.1 32 i ≤ 1
      · rw [if_neg (fun z => (one2 (hT i (by omega))).mp z h4), if_pos h4]
        obtain ⟨q, g⟩ := c_aprL k S c hc e hT m (i + 2) j (by omega) (by omega)
        rw [Int32.ofNat_add] at g
        exact ⟨q, g⟩
      · rw [if_pos ((one2 (hT i (by omega))).mpr h4), if_neg h4]
        exact ⟨0, rfl⟩
theorem m_aprL (k : Nat) (M : ST) (c : Nat) (hc : c ≤ 12) (e : M.1 0 11 = Int32.ofNat c) : ∀ (m i j : Nat), c ≤ i + 2 * m → i ≤ 30 → ∃ q, f_X4_arePairs_L2 M (k + 200) (m + 1 + j) (Int32.ofNat i) = some (if apr (M.1 15) c m i = true then .inr q else .inl false)
  | 0, i, j, h, h2 => by
    refine ⟨Int32.ofNat i, ?_⟩
    rw [show 0 + 1 + j = j + 1 by omega, f_X4_arePairs_L2, if_pos (show M.1 0 11 ≤ _ by rw [e]; exact (p_le (by omega) (by omega)).mpr (by omega)), apr, if_pos rfl]
  | m + 1, i, j, h, h2 => by
    rw [show m + 1 + 1 + j = (m + 1 + j) + 1 by omega, f_X4_arePairs_L2, apr]
    by_cases h3 : c ≤ i
    · refine ⟨Int32.ofNat i, ?_⟩
      rw [if_pos (show M.1 0 11 ≤ _ by rw [e]; exact (p_le (by omega) (by omega)).mpr (by omega)), if_pos h3, if_pos rfl]
    · rw [if_neg (show ¬ M.1 0 11 ≤ _ from fun z => by rw [e] at z; exact h3 ((p_le (by omega) (by omega)).mp z)), if_neg h3, p_tn (by omega), if_neg (p_nbi (i := i) (n := 12) (by omega) (by decide))]
      by_cases h4 : M.1 15 i ≤ 1
      · rw [if_pos h4, if_pos h4]
        obtain ⟨q, g⟩ := m_aprL k M c hc e m (i + 2) j (by omega) (by omega)
        rw [Int32.ofNat_add] at g
        exact ⟨q, g⟩
      · rw [if_neg h4, if_neg h4]
        exact ⟨0, rfl⟩
theorem apr_congr {T U : Nat → Int32} {c : Nat} (hc : c ≤ 12) (h : ∀ i, i < 12 → T i = U i) : ∀ m i, apr T c m i = apr U c m i
  | 0, _ => rfl
  | m + 1, i => by
    rw [apr, apr]
    by_cases h3 : c ≤ i
    · rw [if_pos h3, if_pos h3]
    · rw [if_neg h3, if_neg h3, h i (by omega), apr_congr hc h m (i + 2)]
theorem Rel.num {S M : ST} (R : Rel S M) : ∃ c : Nat, c ≤ 12 ∧ S.1 30 2 = Int32.ofNat c ∧ M.1 0 11 = Int32.ofNat c := by
  have h := R.2.2.2.2.1
  obtain ⟨c, hc, e⟩ := p_ix (n := 13) (by decide) h.2.1.1 (show S.1 30 2 < 13 by have := h.2.1.2; grind)
  exact ⟨c, by omega, e, by rw [← e]; exact h.1.symm⟩
theorem apr_le {T : Nat → Int32} {c : Nat} : ∀ m i, apr T c m i = true → ∀ t, t < m → i + 2 * t < c → T (i + 2 * t) ≤ 1
  | 0, _, _, t, ht, _ => by omega
  | m + 1, i, h, t, ht, h2 => by
    rw [apr, if_neg (by omega)] at h
    split at h
    · rename_i h3
      cases t with
      | zero => exact h3
      | succ t =>
        have := apr_le m (i + 2) h t (by omega) (by omega)
        rw [show i + 2 * (t + 1) = i + 2 + 2 * t by omega]
        exact this
    · cases h
theorem both_pairs {S M : ST} (R : Rel S M) (k : Nat) : ∃ b, f_X3_isRowOfPairs S (k + 200) = some b ∧ f_X4_arePairs M (k + 200) = some b ∧ (b = true → ∀ p : Nat, 2 * p + 1 < 12 → Int32.ofNat (2 * p) < S.1 30 2 → S.1 32 (2 * p + 1) ≤ 1) := by
  obtain ⟨c, hc, e1, e2⟩ := R.num
  have hr := R.2.2.2.2.1.2.2
  obtain ⟨q, a⟩ := c_aprL k S c hc e1 (fun i hi => (hr i hi).2.1) 12 1 (k + 187) (by omega) (by decide)
  obtain ⟨q2, b⟩ := m_aprL k M c hc e2 12 1 (k + 187) (by omega) (by decide)
  rw [show 12 + 1 + (k + 187) = k + 200 by omega] at a b
  have a' : f_X3_isRowOfPairs_L13 S (k + 200) (k + 200) 1 = _ := a
  have b' : f_X4_arePairs_L2 M (k + 200) (k + 200) 1 = _ := b
  rw [← apr_congr hc (fun i hi => (hr i hi).1) 12 1] at b'
  unfold f_X3_isRowOfPairs f_X4_arePairs
  rw [a', b', e1, e2]
  have hev : (Int32.ofNat c - Int32.ofNat c / 2 * 2 = 0) ↔ c % 2 = 0 := by
    have : ∀ c : Fin 13, (Int32.ofNat c.1 - Int32.ofNat c.1 / 2 * 2 = 0) ↔ c.1 % 2 = 0 := by decide +kernel
    exact this ⟨c, by omega⟩
  by_cases h2 : c % 2 = 0
  · rw [if_pos (hev.mpr h2)]
    cases hA : apr (S.1 32) c 12 1
    · rw [if_neg (by decide), if_neg (by decide), p_bs, p_bs]
      exact ⟨false, rfl, rfl, fun z => by cases z⟩
    · rw [if_pos rfl, if_pos rfl, p_bs, p_bs]
      dsimp only
      refine ⟨true, rfl, by rw [if_pos (hev.mpr h2)], fun _ p hp hlt => ?_⟩
      have h3 := (p_lt (by omega) (by omega)).mp hlt
      have := apr_le 12 1 hA p (by omega) (by omega)
      rw [show 2 * p + 1 = 1 + 2 * p by omega]
      exact this
  · rw [if_neg (fun z => h2 (hev.mp z))]
    refine ⟨false, rfl, ?_, fun z => by cases z⟩
    cases hA : apr (S.1 32) c 12 1
    · rw [if_neg (by decide), p_bs]
    · rw [if_pos rfl, p_bs]
      dsimp only
      rw [if_neg (fun z => h2 (hev.mp z))]
/-! the kinds that fit a pair -/
def kft (h l : Int32) (s : Nat) : Bool := decide ((if f_X0_trueStage (f_X0_gain 0 (h * f_X0_coldPoints (Int32.ofNat s))) < 3 then (0 : Int32) else 1) = l)
def kfs (h l : Int32) (x : Int32) (s : Nat) : Int32 := if kft h l s = true then x ||| ((1 : Int32) <<< (Int32.ofNat s &&& 31)) else x
def kfb (h l : Int32) : Int32 := kfs h l (kfs h l (kfs h l (kfs h l (kfs h l (kfs h l 0 0) 1) 2) 3) 4) 5
theorem c_kf (k n : Nat) (fg h l x : Int32) (S : ST) (s : Nat) (hs : s < 6) : ∃ T, f_X3_kindsThatFit_L6 fg h l (k + 200) (n + 1) x (Int32.ofNat s) S = f_X3_kindsThatFit_L6 fg h l (k + 200) n (kfs h l x s) (Int32.ofNat (s + 1)) T ∧ (∀ r, r ≠ 35 → T.1 r = S.1 r) ∧ T.2 = S.2 := by
  refine ⟨((kS S.1 35 (upd (upd (upd (upd (S.1 35) 0 ((f_X0_fill (Int32.ofNat s) fg 1 0).1)) 1 ((f_X0_fill (Int32.ofNat s) fg 1 0).2.1)) 2 ((f_X0_fill (Int32.ofNat s) fg 1 0).2.2.1)) 3 (f_X0_gain ((f_X0_fill (Int32.ofNat s) fg 1 0).2.2.2) (h * (f_X0_coldPoints ((f_X0_fill (Int32.ofNat s) fg 1 0).1)))))), S.2), ?_, fun r hr => ?_, rfl⟩
  · have hf : f_X0_gain ((f_X0_fill (Int32.ofNat s) fg 1 0).2.2.2) (h * (f_X0_coldPoints ((f_X0_fill (Int32.ofNat s) fg 1 0).1))) = f_X0_gain 0 (h * f_X0_coldPoints (Int32.ofNat s)) := rfl
    rw [f_X3_kindsThatFit_L6, if_neg (fun z => by have := (p_le (a := 6) (by omega) (by omega)).mp z; omega), kfs, kft, Int32.ofNat_add]
    rw [hf]
    by_cases h1 : f_X0_trueStage (f_X0_gain 0 (h * f_X0_coldPoints (Int32.ofNat s))) < 3
    · rw [if_pos h1]
      simp only [if_pos h1, decide_eq_true_eq]
      by_cases h2 : (0 : Int32) = l
      · rw [if_pos h2, if_pos h2]; rfl
      · rw [if_neg h2, if_neg h2]; rfl
    · rw [if_neg h1]
      simp only [if_neg h1, decide_eq_true_eq]
      by_cases h2 : (1 : Int32) = l
      · rw [if_pos h2, if_pos h2]; rfl
      · rw [if_neg h2, if_neg h2]; rfl
  · show (if r = 35 then _ else S.1 r) = _
    rw [if_neg hr]
theorem c_kfb (k : Nat) (S : ST) (fg h l : Int32) : ∃ T, f_X3_kindsThatFit S fg h l (k + 200) = some (kfb h l, T) ∧ (∀ r, r ≠ 35 → T.1 r = S.1 r) := by
  obtain ⟨T0, a0, b0, -⟩ := c_kf k (k + 199) fg h l 0 S 0 (by decide)
  obtain ⟨T1, a1, b1, -⟩ := c_kf k (k + 198) fg h l (kfs h l 0 0) T0 1 (by decide)
  obtain ⟨T2, a2, b2, -⟩ := c_kf k (k + 197) fg h l (kfs h l (kfs h l 0 0) 1) T1 2 (by decide)
  obtain ⟨T3, a3, b3, -⟩ := c_kf k (k + 196) fg h l (kfs h l (kfs h l (kfs h l 0 0) 1) 2) T2 3 (by decide)
  obtain ⟨T4, a4, b4, -⟩ := c_kf k (k + 195) fg h l (kfs h l (kfs h l (kfs h l (kfs h l 0 0) 1) 2) 3) T3 4 (by decide)
  obtain ⟨T5, a5, b5, -⟩ := c_kf k (k + 194) fg h l (kfs h l (kfs h l (kfs h l (kfs h l (kfs h l 0 0) 1) 2) 3) 4) T4 5 (by decide)
  have fin : f_X3_kindsThatFit_L6 fg h l (k + 200) (k + 194) (kfb h l) (Int32.ofNat 6) T5 = some (kfb h l, Int32.ofNat 6, T5) := by
    rw [f_X3_kindsThatFit_L6, if_pos (by decide)]
  have all : f_X3_kindsThatFit_L6 fg h l (k + 200) (k + 200) 0 0 S = some (kfb h l, Int32.ofNat 6, T5) := a0.trans (a1.trans (a2.trans (a3.trans (a4.trans (a5.trans fin)))))
  refine ⟨T5, ?_, fun r hr => by rw [b5 r hr, b4 r hr, b3 r hr, b2 r hr, b1 r hr, b0 r hr]⟩
  unfold f_X3_kindsThatFit
  rw [all, p_bs]
def kms (h l : Int32) (x : Int32) (s : Nat) : Int32 := if kft h l s = true then x &&& 63 else x &&& (((1 : Int32) <<< (Int32.ofNat s &&& 31)) ^^^ (-1))
def kmb (h l x : Int32) : Int32 := kms h l (kms h l (kms h l (kms h l (kms h l (kms h l x 0) 1) 2) 3) 4) 5
theorem k64 : ∀ x : Fin 64, ∀ b0 b1 b2 b3 b4 b5 : Bool, (let o := fun (b : Bool) (x : Int32) (s : Nat) => if b = true then x ||| ((1 : Int32) <<< (Int32.ofNat s &&& 31)) else x; let a := fun (b : Bool) (x : Int32) (s : Nat) => if b = true then x &&& 63 else x &&& (((1 : Int32) <<< (Int32.ofNat s &&& 31)) ^^^ (-1)); a b5 (a b4 (a b3 (a b2 (a b1 (a b0 (Int32.ofNat x.1) 0) 1) 2) 3) 4) 5 = Int32.ofNat x.1 &&& o b5 (o b4 (o b3 (o b2 (o b1 (o b0 0 0) 1) 2) 3) 4) 5 ∧ 0 ≤ Int32.ofNat x.1 &&& o b5 (o b4 (o b3 (o b2 (o b1 (o b0 0 0) 1) 2) 3) 4) 5 ∧ Int32.ofNat x.1 &&& o b5 (o b4 (o b3 (o b2 (o b1 (o b0 0 0) 1) 2) 3) 4) 5 < 64) := by decide +kernel
theorem kmb_eq (h l : Int32) {x : Int32} (hx : 0 ≤ x ∧ x < 64) : kmb h l x = x &&& kfb h l ∧ 0 ≤ x &&& kfb h l ∧ x &&& kfb h l < 64 := by
  obtain ⟨a, ha, rfl⟩ := p_ix (n := 64) (by decide) hx.1 hx.2
  exact k64 ⟨a, ha⟩ (kft h l 0) (kft h l 1) (kft h l 2) (kft h l 3) (kft h l 4) (kft h l 5)
theorem m_ill1 (k : Nat) (M : ST) {s p : Nat} (hs : s < 6) (hp : 2 * p + 1 < 12) (hl : 0 ≤ M.1 15 (2 * p + 1) ∧ M.1 15 (2 * p + 1) ≤ 1) : f_X4_isIllBy M (Int32.ofNat s) (Int32.ofNat p) (k + 200) = some (kft (M.1 15 (2 * p)) (M.1 15 (2 * p + 1)) s) := by
  have e2 : (2 : Int32) * Int32.ofNat p = Int32.ofNat (2 * p) := by rw [Int32.ofNat_mul]; rfl
  have hs6 : 0 ≤ Int32.ofNat s ∧ Int32.ofNat s < 6 := ⟨p_0le s (by omega), (p_lt (b := 6) (by omega) (by omega)).mpr hs⟩
  have e3 : Int32.ofNat (2 * p) + 1 = Int32.ofNat (2 * p + 1) := (Int32.ofNat_add (2 * p) 1).symm
  unfold f_X4_isIllBy
  simp only [e2, e3, p_tn (show 2 * p < 2147483648 by omega), p_tn (show 2 * p + 1 < 2147483648 by omega), if_neg (p_nbi (i := 2 * p) (n := 12) (by omega) (by decide)), if_neg (p_nbi (i := 2 * p + 1) (n := 12) hp (by decide)), m_stage, m_cold hs6]
  have eg : f_X4_heldPoints (f_X0_coldPoints (Int32.ofNat s) * M.1 15 (2 * p)) = f_X0_gain 0 (M.1 15 (2 * p) * f_X0_coldPoints (Int32.ofNat s)) := by
    rw [← m_gain, Int32.zero_add, Int32.mul_comm]
  rw [eg]
  unfold kft
  have h01 := p_2 (p := M.1 15 (2 * p + 1)) hl.1 (by have := hl.2; grind)
  by_cases h1 : f_X0_trueStage (f_X0_gain 0 (M.1 15 (2 * p) * f_X0_coldPoints (Int32.ofNat s))) ≤ 2
  · rw [if_pos h1, if_pos (show f_X0_trueStage (f_X0_gain 0 (M.1 15 (2 * p) * f_X0_coldPoints (Int32.ofNat s))) < 3 by grind)]
    rcases h01 with h | h <;> rw [h] <;> decide
  · rw [if_neg h1, if_neg (show ¬ f_X0_trueStage (f_X0_gain 0 (M.1 15 (2 * p) * f_X0_coldPoints (Int32.ofNat s))) < 3 by grind)]
    rcases h01 with h | h <;> rw [h] <;> decide
theorem m_km (k n : Nat) (M : ST) {s p : Nat} (hs : s < 6) (hp : 2 * p + 1 < 12) (hl : 0 ≤ M.1 15 (2 * p + 1) ∧ M.1 15 (2 * p + 1) ≤ 1) (x : Int32) : f_X4_ill_L69 (Int32.ofNat p) M (k + 200) (n + 1) x (Int32.ofNat s) = f_X4_ill_L69 (Int32.ofNat p) M (k + 200) n (kms (M.1 15 (2 * p)) (M.1 15 (2 * p + 1)) x s) (Int32.ofNat (s + 1)) := by
  rw [f_X4_ill_L69, if_neg (fun z => by have := (p_le (a := 6) (by omega) (by omega)).mp z; omega), m_ill1 k M hs hp hl, p_bs, kms, Int32.ofNat_add]
  cases kft (M.1 15 (2 * p)) (M.1 15 (2 * p + 1)) s
  · rw [if_pos (by decide), if_neg (by decide)]; rfl
  · rw [if_neg (by decide), if_pos rfl]; rfl
theorem m_kmb (k : Nat) (M : ST) {p : Nat} (hp : 2 * p + 1 < 12) (hl : 0 ≤ M.1 15 (2 * p + 1) ∧ M.1 15 (2 * p + 1) ≤ 1) (x : Int32) : f_X4_ill_L69 (Int32.ofNat p) M (k + 200) (k + 200) x 0 = some (kmb (M.1 15 (2 * p)) (M.1 15 (2 * p + 1)) x, Int32.ofNat 6) := by
  have fin : f_X4_ill_L69 (Int32.ofNat p) M (k + 200) (k + 194) (kmb (M.1 15 (2 * p)) (M.1 15 (2 * p + 1)) x) (Int32.ofNat 6) = some (kmb (M.1 15 (2 * p)) (M.1 15 (2 * p + 1)) x, Int32.ofNat 6) := by
    rw [f_X4_ill_L69, if_pos (by decide)]
  exact (m_km k (k + 199) M (s := 0) (by decide) hp hl x).trans ((m_km k (k + 198) M (s := 1) (by decide) hp hl _).trans ((m_km k (k + 197) M (s := 2) (by decide) hp hl _).trans ((m_km k (k + 196) M (s := 3) (by decide) hp hl _).trans ((m_km k (k + 195) M (s := 4) (by decide) hp hl _).trans ((m_km k (k + 194) M (s := 5) (by decide) hp hl _).trans fin)))))
def iln (T : Nat → Int32) (s : Int32 × Int32) (p : Nat) : Int32 × Int32 := (s.1 &&& kfb (T (2 * p)) (T (2 * p + 1)), if s.1 &&& kfb (T (2 * p)) (T (2 * p + 1)) = 0 then (if s.2 < 0 then Int32.ofNat p else s.2) else s.2)
def ilf (T : Nat → Int32) : Nat → Nat → Int32 × Int32 → Int32 × Int32
  | 0, _, s => s
  | m + 1, p, s => ilf T m (p + 1) (iln T s p)
theorem p_2i (p : Nat) : (2 : Int32) * Int32.ofNat p = Int32.ofNat (2 * p) := by rw [Int32.ofNat_mul]; rfl
theorem c_ilL (k : Nat) (T : Nat → Int32) (c : Nat) (hc : c ≤ 12) : ∀ (m p j : Nat) (s : Int32 × Int32) (S : ST), c ≤ 2 * (p + m) → p + m ≤ 6 → (m ≠ 0 → 2 * (p + m) ≤ c) → S.1 30 2 = Int32.ofNat c → S.1 32 = T → (s.2 = -9 ∨ 0 ≤ s.2) → ∃ q S2, f_X3_ill_L49 (k + 200) (m + 1 + j) s.1 s.2 (Int32.ofNat p) S = some ((ilf T m p s).1, (ilf T m p s).2, q, S2) ∧ ∀ r, r ≠ 35 → S2.1 r = S.1 r
  | 0, p, j, s, S, h1, h2, h3, e, eT, hs => by
    refine ⟨Int32.ofNat p, S, ?_, fun _ _ => rfl⟩
    rw [show 0 + 1 + j = j + 1 by omega, f_X3_ill_L49, p_2i, if_pos (show S.1 30 2 ≤ _ by rw [e]; exact (p_le (by omega) (by omega)).mpr (by omega))]
    rfl
  | m + 1, p, j, s, S, h1, h2, h3, e, eT, hs => by
    have h4 := h3 (by omega)
    obtain ⟨S1, a1, a2⟩ := c_kfb k S (S.1 34 1) (T (2 * p)) (T (2 * p + 1))
    have e3 : Int32.ofNat (2 * p) + 1 = Int32.ofNat (2 * p + 1) := (Int32.ofNat_add (2 * p) 1).symm
    rw [show m + 1 + 1 + j = (m + 1 + j) + 1 by omega, f_X3_ill_L49, p_2i, if_neg (show ¬ S.1 30 2 ≤ _ from fun z => by rw [e] at z; have := (p_le (by omega) (by omega)).mp z; omega), e3, p_at (by decide) (by omega), p_at (by decide) (by omega), eT, a1, p_bs, ilf, iln]
    have fin : ∀ f2 : Int32, (f2 = -9 ∨ 0 ≤ f2) → ∃ q S2, f_X3_ill_L49 (k + 200) (m + 1 + j) (s.1 &&& kfb (T (2 * p)) (T (2 * p + 1))) f2 (Int32.ofNat p + 1) S1 = some ((ilf T m (p + 1) (s.1 &&& kfb (T (2 * p)) (T (2 * p + 1)), f2)).1, (ilf T m (p + 1) (s.1 &&& kfb (T (2 * p)) (T (2 * p + 1)), f2)).2, q, S2) ∧ ∀ r, r ≠ 35 → S2.1 r = S.1 r := fun f2 hf => by
      obtain ⟨q, S2, g1, g2⟩ := c_ilL k T c hc m (p + 1) j (s.1 &&& kfb (T (2 * p)) (T (2 * p + 1)), f2) S1 (by omega) (by omega) (fun _ => by omega) (by rw [a2 30 (by decide)]; exact e) (by rw [a2 32 (by decide)]; exact eT) hf
      rw [Int32.ofNat_add] at g1
      exact ⟨q, S2, g1, fun r hr => (g2 r hr).trans (a2 r hr)⟩
    dsimp only
    by_cases h5 : s.1 &&& kfb (T (2 * p)) (T (2 * p + 1)) = 0
    · rw [if_pos h5, if_pos h5]
      rcases hs with hs | hs
      · rw [if_pos hs, if_pos (show s.2 < 0 by rw [hs]; decide)]
        exact fin _ (Or.inr (p_0le p (by omega)))
      · rw [if_neg (show ¬ s.2 = -9 from fun z => by rw [z] at hs; exact absurd hs (by decide)), if_neg (show ¬ s.2 < 0 by grind)]
        exact fin _ (Or.inr hs)
    · rw [if_neg h5, if_neg h5]
      exact fin _ hs
theorem m_ilL (k : Nat) (M : ST) (c : Nat) (hc : c ≤ 12) (e : M.1 0 11 = Int32.ofNat c) (hl : ∀ p : Nat, 2 * p + 1 < 12 → 2 * p < c → 0 ≤ M.1 15 (2 * p + 1) ∧ M.1 15 (2 * p + 1) ≤ 1) : ∀ (m p j : Nat) (s : Int32 × Int32), c ≤ 2 * (p + m) → p + m ≤ 6 → (m ≠ 0 → 2 * (p + m) ≤ c) → (0 ≤ s.1 ∧ s.1 < 64) → ∃ q, f_X4_ill_L55 M (k + 200) (m + 1 + j) s.1 s.2 (Int32.ofNat p) = some ((ilf (M.1 15) m p s).1, (ilf (M.1 15) m p s).2, q)
  | 0, p, j, s, h1, h2, h3, hs => by
    refine ⟨Int32.ofNat p, ?_⟩
    rw [show 0 + 1 + j = j + 1 by omega, f_X4_ill_L55, p_2i, if_pos (show M.1 0 11 ≤ _ by rw [e]; exact (p_le (by omega) (by omega)).mpr (by omega))]
    rfl
  | m + 1, p, j, s, h1, h2, h3, hs => by
    have h4 := h3 (by omega)
    have hk := kmb_eq (M.1 15 (2 * p)) (M.1 15 (2 * p + 1)) hs
    rw [show m + 1 + 1 + j = (m + 1 + j) + 1 by omega, f_X4_ill_L55, p_2i, if_neg (show ¬ M.1 0 11 ≤ _ from fun z => by rw [e] at z; have := (p_le (by omega) (by omega)).mp z; omega), m_kmb k M (by omega) (hl p (by omega) (by omega)), p_bs, hk.1, ilf, iln]
    have fin : ∀ f2 : Int32, ∃ q, f_X4_ill_L55 M (k + 200) (m + 1 + j) (s.1 &&& kfb (M.1 15 (2 * p)) (M.1 15 (2 * p + 1))) f2 (Int32.ofNat p + 1) = some ((ilf (M.1 15) m (p + 1) (s.1 &&& kfb (M.1 15 (2 * p)) (M.1 15 (2 * p + 1)), f2)).1, (ilf (M.1 15) m (p + 1) (s.1 &&& kfb (M.1 15 (2 * p)) (M.1 15 (2 * p + 1)), f2)).2, q) := fun f2 => by
      obtain ⟨q, g1⟩ := m_ilL k M c hc e hl m (p + 1) j (s.1 &&& kfb (M.1 15 (2 * p)) (M.1 15 (2 * p + 1)), f2) (by omega) (by omega) (fun _ => by omega) hk.2
      rw [Int32.ofNat_add] at g1
      exact ⟨q, g1⟩
    dsimp only
    by_cases h5 : s.1 &&& kfb (M.1 15 (2 * p)) (M.1 15 (2 * p + 1)) = 0
    · rw [if_pos h5, if_pos h5]
      by_cases h6 : 0 ≤ s.2
      · rw [if_pos h6, if_neg (show ¬ s.2 < 0 by grind)]
        exact fin _
      · rw [if_neg h6, if_pos (show s.2 < 0 by grind)]
        exact fin _
    · rw [if_neg h5, if_neg h5]
      exact fin _
theorem ilf_congr {T U : Nat → Int32} (h : ∀ i, i < 12 → T i = U i) : ∀ m p s, p + m ≤ 6 → ilf T m p s = ilf U m p s
  | 0, _, _, _ => rfl
  | m + 1, p, s, hp => by
    rw [ilf, ilf, iln, iln, h (2 * p) (by omega), h (2 * p + 1) (by omega)]
    exact ilf_congr h m (p + 1) _ (by omega)
theorem o_ill {S M : ST} (R : Rel S M) (k : Nat) (p0 : Int32) : O2 (f_X3_ill S p0 (k + 200)) (f_X4_ill M p0 (k + 200)) := by
  unfold f_X3_ill f_X4_ill
  rw [m_isIn1]
  cases h0 : f_X3_isOneOf p0 2
  · simp only [b2i_f0, if_true, rih_tf]
    rw [if_neg (by decide)]
    exact ref_no R (Or.inr (Or.inl rfl)) k
  simp only [b2i_t0, if_false]
  by_cases hj : jIn (S.1 0 0) (S.1 0 1)
  · rw [rih_y hj, if_pos rfl, if_neg (R.in0.mp hj)]
    obtain ⟨b, a1, a2, a3⟩ := both_pairs R k
    rw [a1, p_bs, a2, p_bs]
    cases b
    · rw [if_pos (show b2i false = 0 by decide), if_pos (show b2i false = 0 by decide)]
      exact ref_no R (Or.inr (Or.inr (Or.inl rfl))) k
    rw [if_neg (show ¬ b2i true = 0 by decide), if_neg (show ¬ b2i true = 0 by decide)]
    obtain ⟨S2, M2, h1, h2, T⟩ := think_both R hj k
    obtain ⟨c, hc, e1, e2⟩ := R.num
    have hr := R.2.2.2.2.1.2.2
    have Tc := T.2.1
    rw [h1, p_bs]
    -- the row is even
    have hev : c % 2 = 0 := by
      rcases Nat.mod_two_eq_zero_or_one c with h | h
      · exact h
      · exfalso
        unfold f_X3_isRowOfPairs at a1
        rw [e1] at a1
        have : ∀ c : Fin 13, c.1 % 2 = 1 → ¬ (Int32.ofNat c.1 - Int32.ofNat c.1 / 2 * 2 = 0) := by decide +kernel
        rw [if_neg (this ⟨c, by omega⟩ h)] at a1
        cases a1
    obtain ⟨q, S3, g1, g2⟩ := c_ilL k (S2.1 32) c hc (c / 2) 0 (k + 199 - c / 2) (63, -9) S2 (by omega) (by omega) (fun _ => by omega) (by rw [Tc 30 (by decide) (by decide)]; exact e1) rfl (Or.inl rfl)
    obtain ⟨q2, g3⟩ := m_ilL k M c hc e2 (fun p hp hp2 => by
      have h5 := hr (2 * p + 1) hp
      rw [← h5.1]
      exact ⟨h5.2.1, a3 rfl p hp (by rw [e1]; exact (p_lt (by omega) (by omega)).mpr hp2)⟩) (c / 2) 0 (k + 199 - c / 2) (63, -9) (by omega) (by omega) (fun _ => by omega) (by decide)
    rw [show c / 2 + 1 + (k + 199 - c / 2) = k + 200 by omega] at g1 g3
    have g1' : f_X3_ill_L49 (k + 200) (k + 200) 63 (-9) 0 S2 = _ := g1
    have g3' : f_X4_ill_L55 M (k + 200) (k + 200) 63 (-9) 0 = _ := g3
    rw [g1', p_bs, g3', p_bs, Tc 32 (by decide) (by decide), ilf_congr (fun i hi => (hr i hi).1) (c / 2) 0 _ (by omega)]
    have RR : Rel S3 M := R.frame (fun r h3 h4 => (g2 r h4).trans (Tc r h3 h4)) mS.rfl'
    by_cases hp : p0 = 0
    · rw [if_pos hp, if_pos hp]
      exact ⟨_, _, _, rfl, rfl, RR⟩
    · rw [if_neg hp, if_neg hp]
      exact ⟨_, _, _, rfl, rfl, RR⟩
  · rw [rih_n hj, if_neg (by decide), if_pos (Classical.not_not.mp (fun z => hj (R.in0.mpr z)))]
    exact ref_no R (Or.inr (Or.inr (Or.inl rfl))) k
/-! judge -/
def jw (T : Nat → Int32) (kd pt : Int32) : Nat → Nat → Int32
  | 0, _ => -9
  | m + 1, i => if T i = f_X0_trueStage (pd kd pt i) then jw T kd pt m (i + 1) else Int32.ofNat i
theorem c_jdA (k : Nat) (c : Nat) (hc : c ≤ 12) (b : Nat) (hb : b ≤ 12) : ∀ (m i j : Nat) (S : ST), i + m = c → S.1 30 2 = Int32.ofNat c → ∃ q S2, f_X3_judge_L37 (k + 200) (m + 1 + j) (Int32.ofNat b) (Int32.ofNat i) S = some (Int32.ofNat b, q, S2) ∧ ∀ r, r ≠ 35 → S2.1 r = S.1 r
  | 0, i, j, S, h, e => by
    refine ⟨Int32.ofNat i, S, ?_, fun _ _ => rfl⟩
    rw [show 0 + 1 + j = j + 1 by omega, f_X3_judge_L37, if_pos (show S.1 30 2 ≤ _ by rw [e]; exact (p_le (by omega) (by omega)).mpr (by omega))]
  | m + 1, i, j, S, h, e => by
    have hn : ¬ Int32.ofNat b = -9 := fun z => by
      have := p_0le b (by omega)
      rw [z] at this
      exact absurd this (by decide)
    rw [show m + 1 + 1 + j = (m + 1 + j) + 1 by omega, f_X3_judge_L37, if_neg (show ¬ S.1 30 2 ≤ _ from fun z => by rw [e] at z; have := (p_le (by omega) (by omega)).mp z; omega), if_neg hn]
    obtain ⟨q, S2, g1, g2⟩ := c_jdA k c hc b hb m (i + 1) j ((kS S.1 35 (upd (S.1 35) 3 (f_X0_gain (S.1 35 3) (24 * f_X0_coldPoints (S.1 35 0))))), S.2) (by omega) e
    rw [Int32.ofNat_add] at g1
    refine ⟨q, S2, g1, fun r hr => (g2 r hr).trans ?_⟩
    show (if r = 35 then _ else S.1 r) = _
    rw [if_neg hr]
theorem c_jdL (k : Nat) (c : Nat) (hc : c ≤ 12) (T : Nat → Int32) (kd pt : Int32) : ∀ (m i j : Nat) (S : ST), i + m = c → S.1 30 2 = Int32.ofNat c → S.1 32 = T → S.1 35 0 = kd → S.1 35 3 = pd kd pt i → ∃ q S2, f_X3_judge_L37 (k + 200) (m + 1 + j) (-9) (Int32.ofNat i) S = some (jw T kd pt m i, q, S2) ∧ ∀ r, r ≠ 35 → S2.1 r = S.1 r
  | 0, i, j, S, h, e, eT, e0, e3 => by
    refine ⟨Int32.ofNat i, S, ?_, fun _ _ => rfl⟩
    rw [show 0 + 1 + j = j + 1 by omega, f_X3_judge_L37, if_pos (show S.1 30 2 ≤ _ by rw [e]; exact (p_le (by omega) (by omega)).mpr (by omega))]
    rfl
  | m + 1, i, j, S, h, e, eT, e0, e3 => by
    rw [show m + 1 + 1 + j = (m + 1 + j) + 1 by omega, f_X3_judge_L37, if_neg (show ¬ S.1 30 2 ≤ _ from fun z => by rw [e] at z; have := (p_le (by omega) (by omega)).mp z; omega), if_pos rfl, p_at (by decide) (by omega), eT, e3, e0, jw]
    have hfr : ∀ S2 : ST, (∀ r, r ≠ 35 → S2.1 r = (kS S.1 35 (upd (S.1 35) 3 (f_X0_gain (pd kd pt i) (24 * f_X0_coldPoints kd)))) r) → ∀ r, r ≠ 35 → S2.1 r = S.1 r := fun S2 g r hr => (g r hr).trans (by
      show (if r = 35 then _ else S.1 r) = _
      rw [if_neg hr])
    by_cases h9 : T i = f_X0_trueStage (pd kd pt i)
    · rw [if_pos h9, if_pos h9]
      obtain ⟨q, S2, g1, g2⟩ := c_jdL k c hc T kd pt m (i + 1) j ((kS S.1 35 (upd (S.1 35) 3 (f_X0_gain (pd kd pt i) (24 * f_X0_coldPoints kd)))), S.2) (by omega) e eT e0 rfl
      rw [Int32.ofNat_add] at g1
      exact ⟨q, S2, g1, hfr S2 g2⟩
    · rw [if_neg h9, if_neg h9]
      obtain ⟨q, S2, g1, g2⟩ := c_jdA k c hc i (by omega) m (i + 1) j ((kS S.1 35 (upd (S.1 35) 3 (f_X0_gain (pd kd pt i) (24 * f_X0_coldPoints kd)))), S.2) (by omega) e
      rw [Int32.ofNat_add] at g1
      exact ⟨q, S2, g1, hfr S2 g2⟩
theorem m_jdL (k : Nat) (c : Nat) (hc : c ≤ 12) (M : ST) {kd pt cp : Int32} (H : HM M.1 kd pt cp) : ∀ (m i j : Nat), i + m = c → ∃ q, f_X4_judge_L26 (Int32.ofNat c) M (k + 200) (m + 1 + j) (Int32.ofNat i) = some (if jw (M.1 15) kd pt m i = -9 then .inr q else .inl (jw (M.1 15) kd pt m i, M))
  | 0, i, j, h => by
    refine ⟨Int32.ofNat i, ?_⟩
    rw [show 0 + 1 + j = j + 1 by omega, f_X4_judge_L26, if_pos ((p_le (by omega) (by omega)).mpr (by omega)), jw, if_pos rfl]
  | m + 1, i, j, h => by
    rw [show m + 1 + 1 + j = (m + 1 + j) + 1 by omega, f_X4_judge_L26, if_neg (fun z => by have := (p_le (by omega) (by omega)).mp z; omega), if_neg H.nb, if_neg H.nb, p_tn (by omega), if_neg (p_nbi (i := i) (n := 12) (by omega) (by decide)), m_gain, m_stage, H.2.1, H.2.2.1, m_cold H.2.2.2.2.1, pd_eq H.2.2.2.2.2 i (by omega), jw]
    by_cases h9 : f_X0_trueStage (pd kd pt i) = M.1 15 i
    · rw [if_pos h9, if_pos h9.symm]
      obtain ⟨q, g⟩ := m_jdL k c hc M H m (i + 1) j (by omega)
      rw [Int32.ofNat_add] at g
      exact ⟨q, g⟩
    · have hn : ¬ Int32.ofNat i = -9 := fun z => by
        have := p_0le i (by omega)
        rw [z] at this
        exact absurd this (by decide)
      rw [if_neg h9, if_neg (fun z => h9 z.symm)]
      exact ⟨0, by rw [if_neg hn]⟩
theorem jw_congr {T U : Nat → Int32} {kd pt : Int32} (h : ∀ i, i < 12 → T i = U i) : ∀ m i, i + m ≤ 12 → jw T kd pt m i = jw U kd pt m i
  | 0, _, _ => rfl
  | m + 1, i, hi => by rw [jw, jw, h i (by omega), jw_congr h m (i + 1) (by omega)]
theorem o_judge {S M : ST} (R : Rel S M) (k : Nat) : O2 (f_X3_judge S (k + 200)) (f_X4_judge M (k + 200)) := by
  unfold f_X3_judge f_X4_judge
  by_cases hj : jIn (S.1 0 0) (S.1 0 1)
  · rw [rih_y hj, if_pos rfl, if_neg (R.in0.mp hj)]
    obtain ⟨S2, M2, h1, h2, T⟩ := think_both R hj k
    obtain ⟨c, hc, e1, e2⟩ := R.num
    have hr := R.2.2.2.2.1.2.2
    have Tcs := T.2.1
    have T34 := T.2.2.2.2.2.1
    rw [h1, p_bs]
    generalize hS : ((kS S2.1 35 _, S2.2) : ST) = S1
    have q1 : ∀ r, r ≠ 35 → S1.1 r = S2.1 r := fun r hr => by
      subst hS
      show (if r = 35 then _ else _) = _
      rw [if_neg hr]
    have q2 : S1.1 35 0 = S.1 5 (jj S) ∧ S1.1 35 3 = S.1 8 (jj S) := by
      subst hS
      exact ⟨T34.1, T34.2.2.2⟩
    clear hS
    have hc1 : cS S S1 := fun r h3 h4 => by rw [q1 r h4]; exact Tcs r h3 h4
    obtain ⟨q, S3, g1, g2⟩ := c_jdL k c hc (S1.1 32) (S.1 5 (jj S)) (S.1 8 (jj S)) c 0 (k + 199 - c) S1 (by omega) (by rw [hc1 30 (by decide) (by decide)]; exact e1) rfl q2.1 q2.2
    have H : HM (kS M.1 0 (upd (M.1 0) 11 0)) (S.1 5 (jj S)) (S.1 8 (jj S)) (S.1 7 (jj S)) := R.hm hj
    obtain ⟨q3, g3⟩ := m_jdL k c hc (kS M.1 0 (upd (M.1 0) 11 0), M.2) H c 0 (k + 199 - c) (by omega)
    rw [show c + 1 + (k + 199 - c) = k + 200 by omega] at g1 g3
    have g1' : f_X3_judge_L37 (k + 200) (k + 200) (-9) 0 S1 = _ := g1
    have g3' : f_X4_judge_L26 (Int32.ofNat c) (kS M.1 0 (upd (M.1 0) 11 0), M.2) (k + 200) (k + 200) 0 = _ := g3
    rw [g1', p_bs, e2, g3', p_bs]
    have hje : jw (S1.1 32) (S.1 5 (jj S)) (S.1 8 (jj S)) c 0 = jw (((kS M.1 0 (upd (M.1 0) 11 0), M.2) : ST).1 15) (S.1 5 (jj S)) (S.1 8 (jj S)) c 0 := by
      rw [hc1 32 (by decide) (by decide)]
      exact jw_congr (fun i hi => (hr i hi).1) c 0 (by omega)
    have R3 : Rel S3 M := R.frame (fun r h3 h4 => (g2 r h4).trans (hc1 r h3 h4)) mS.rfl'
    have RR := R3.clear
    rw [← hje]
    by_cases h9 : jw (S1.1 32) (S.1 5 (jj S)) (S.1 8 (jj S)) c 0 = -9
    · rw [if_pos h9]
      exact ⟨_, _, _, rfl, by rw [h9], RR⟩
    · rw [if_neg h9]
      exact ⟨_, _, _, rfl, rfl, RR⟩
  · rw [rih_n hj, if_neg (by decide), if_pos (Classical.not_not.mp (fun z => hj (R.in0.mpr z)))]
    exact ref_no R (Or.inr (Or.inr (Or.inl rfl))) k
