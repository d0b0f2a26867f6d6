/-! what class and reference have in common between two calls -/
abbrev ST : Type := (Nat → Nat → Int32) × (Nat → Nat → Int64)
/-- a kitchen as it must be -/
def GK (K : Nat → Nat → Int32) : Prop :=
  ((0 ≤ K 0 0 ∧ K 0 0 ≤ 5) ∧ (0 ≤ K 0 1 ∧ (K 0 1 < K 0 0 ∨ K 0 0 = 0 ∧ K 0 1 = 0)) ∧ (0 ≤ K 0 2 ∧ K 0 2 ≤ 8) ∧ (0 ≤ K 0 3 ∧ K 0 3 ≤ 9) ∧ (0 ≤ K 0 4 ∧ K 0 4 ≤ 4)) ∧
  (∀ i, i < 8 → (0 ≤ K 1 i ∧ K 1 i < 4) ∧ (0 ≤ K 2 i ∧ K 2 i < 2)) ∧
  (∀ i, i < 4 → (0 ≤ K 3 i ∧ K 3 i ≤ 9) ∧ (0 ≤ K 4 i ∧ K 4 i ≤ 4)) ∧
  (∀ i, i < 5 → Int32.ofNat i < K 0 0 → (0 ≤ K 5 i ∧ K 5 i < 6) ∧ (0 ≤ K 6 i ∧ K 6 i ≤ 9) ∧ (0 ≤ K 7 i ∧ K 7 i ≤ 9) ∧ (0 ≤ K 8 i ∧ K 8 i ≤ 240)) ∧
  (∀ i, i < 5 → Int32.ofNat i < K 0 0 → 1 ≤ K 7 i)
/-- two kitchens that answer alike -/
def RKt (K L : Nat → Nat → Int32) : Prop :=
  (K 0 0 = L 0 0 ∧ K 0 1 = L 0 1 ∧ K 0 2 = L 0 2 ∧ K 0 3 = L 0 3 ∧ K 0 4 = L 0 4) ∧
  (∀ i, i < 8 → K 1 i = L 1 i ∧ K 2 i = L 2 i) ∧ (∀ i, i < 4 → K 3 i = L 3 i ∧ K 4 i = L 4 i) ∧
  (∀ i, i < 5 → Int32.ofNat i < K 0 0 → K 5 i = L 5 i ∧ K 6 i = L 6 i ∧ K 7 i = L 7 i ∧ K 8 i = L 8 i)
/-- the reference's kitchen, laid as the class lays it -/
def mK (M : Nat → Nat → Int32) : Nat → Nat → Int32 := fun r => match r with
  | 0 => fun i => if i = 3 then M 0 4 else if i = 4 then M 0 3 else M 0 i
  | 1 => M 7
  | 2 => M 8
  | 3 => M 6
  | 4 => M 9
  | 5 => M 2
  | 6 => M 3
  | 7 => M 4
  | 8 => M 5
  | r => M r
/-- what is kept from the place o on, laid as the class lays it -/
def kK (M : Nat → Nat → Int32) (o : Nat) : Nat → Nat → Int32 := fun r => match r with
  | 0 => fun i => M 14 (o + (if i = 3 then 48 else if i = 4 then 47 else 44 + i))
  | 1 => fun i => M 14 (o + (24 + i))
  | 2 => fun i => M 14 (o + (32 + i))
  | 3 => fun i => M 14 (o + (20 + i))
  | 4 => fun i => M 14 (o + (40 + i))
  | 5 => fun i => M 14 (o + i)
  | 6 => fun i => M 14 (o + (5 + i))
  | 7 => fun i => M 14 (o + (10 + i))
  | 8 => fun i => M 14 (o + (15 + i))
  | _ => fun _ => 0
def RIm (C M : Nat → Nat → Int32) : Prop := C 30 0 = M 0 8 ∧ (C 30 0 = 0 ∨ C 30 0 = 1) ∧ (C 30 0 = 1 → RKt (kR C 2) (kK M 0) ∧ GK (kR C 2))
def RLt (C M : Nat → Nat → Int32) : Prop := C 30 1 = M 0 5 ∧ (0 ≤ C 30 1 ∧ C 30 1 ≤ 96) ∧ ∀ i, i < 96 → C 31 i = M 10 i
def RNu (C M : Nat → Nat → Int32) : Prop := C 30 2 = M 0 11 ∧ (0 ≤ C 30 2 ∧ C 30 2 ≤ 12) ∧ ∀ i, i < 12 → C 32 i = M 15 i ∧ 0 ≤ C 32 i ∧ C 32 i ≤ 99
def RRf (C M : Nat → Nat → Int32) : Prop := ∀ i, i < 7 → C 33 i = M 1 i
def Rel (S M : ST) : Prop := RKt (kR S.1 0) (mK M.1) ∧ GK (kR S.1 0) ∧ RIm S.1 M.1 ∧ RLt S.1 M.1 ∧ RNu S.1 M.1 ∧ RRf S.1 M.1
theorem kR0 (K : Nat → Nat → Int32) : kR K 0 = K := by
  funext r
  show K (10 * 0 + r) = K r
  rw [Nat.mul_zero, Nat.zero_add]
theorem GK.congr {K L : Nat → Nat → Int32} (h : GK K) (e : ∀ r, r < 9 → K r = L r) : GK L := by
  unfold GK at h ⊢
  rw [← e 0 (by decide), ← e 1 (by decide), ← e 2 (by decide), ← e 3 (by decide), ← e 4 (by decide), ← e 5 (by decide), ← e 6 (by decide), ← e 7 (by decide), ← e 8 (by decide)]
  exact h
theorem RKt.congr {K L K2 L2 : Nat → Nat → Int32} (h : RKt K L) (e : ∀ r, r < 9 → K r = K2 r) (f : ∀ r, r < 9 → L r = L2 r) : RKt K2 L2 := by
  unfold RKt at h ⊢
  rw [← e 0 (by decide), ← e 1 (by decide), ← e 2 (by decide), ← e 3 (by decide), ← e 4 (by decide), ← e 5 (by decide), ← e 6 (by decide), ← e 7 (by decide), ← e 8 (by decide), ← f 0 (by decide), ← f 1 (by decide), ← f 2 (by decide), ← f 3 (by decide), ← f 4 (by decide), ← f 5 (by decide), ← f 6 (by decide), ← f 7 (by decide), ← f 8 (by decide)]
  exact h
/-- rows of the class that no call but kitchen() looks at before it writes them -/
def cS (S T : ST) : Prop := ∀ r, r ≠ 34 → r ≠ 35 → T.1 r = S.1 r
theorem cS.rfl' {S : ST} : cS S S := fun _ _ _ => rfl
theorem cS.trans {S T U : ST} (h : cS S T) (h2 : cS T U) : cS S U := fun r h3 h4 => (h2 r h3 h4).trans (h r h3 h4)
/-- what the reference may have written, but nothing that is looked at later -/
def mS (M N : ST) : Prop := ∀ r, r ≠ 16 → N.1 r = M.1 r
theorem mS.rfl' {S : ST} : mS S S := fun _ _ => rfl
theorem mS.trans {S T U : ST} (h : mS S T) (h2 : mS T U) : mS S U := fun r h3 => (h2 r h3).trans (h r h3)
theorem Rel.frame {S S2 M M2 : ST} (h : Rel S M) (hs : cS S S2) (hm : mS M M2) : Rel S2 M2 := by
  obtain ⟨h1, h2, h3, h4, h5, h6⟩ := h
  have e : ∀ r, r < 9 → kR S.1 0 r = kR S2.1 0 r := fun r hr => by
    rw [kR0, kR0]
    exact (hs r (by omega) (by omega)).symm
  have e2 : ∀ r, r < 9 → kR S.1 2 r = kR S2.1 2 r := fun r hr => (hs (10 * 2 + r) (by omega) (by omega)).symm
  have f : ∀ r, r < 9 → mK M.1 r = mK M2.1 r := fun r hr => by
    unfold mK
    rw [hm 0 (by decide), hm 7 (by decide), hm 8 (by decide), hm 6 (by decide), hm 9 (by decide), hm 2 (by decide), hm 3 (by decide), hm 4 (by decide), hm 5 (by decide)]
    match r, hr with
    | 0, _ => rfl
    | 1, _ => rfl
    | 2, _ => rfl
    | 3, _ => rfl
    | 4, _ => rfl
    | 5, _ => rfl
    | 6, _ => rfl
    | 7, _ => rfl
    | 8, _ => rfl
  have f2 : kK M.1 0 = kK M2.1 0 := by
    unfold kK
    rw [hm 14 (by decide)]
  refine ⟨h1.congr e f, h2.congr e, ?_, ?_, ?_, ?_⟩
  · unfold RIm at h3 ⊢
    rw [hs 30 (by decide) (by decide), hm 0 (by decide)]
    exact ⟨h3.1, h3.2.1, fun z => ⟨(h3.2.2 z).1.congr e2 (fun r hr => by rw [f2]), (h3.2.2 z).2.congr e2⟩⟩
  · unfold RLt at h4 ⊢
    rw [hs 30 (by decide) (by decide), hm 0 (by decide), hs 31 (by decide) (by decide), hm 10 (by decide)]
    exact h4
  · unfold RNu at h5 ⊢
    rw [hs 30 (by decide) (by decide), hm 0 (by decide), hs 32 (by decide) (by decide), hm 15 (by decide)]
    exact h5
  · unfold RRf at h6 ⊢
    rw [hs 33 (by decide) (by decide), hm 1 (by decide)]
    exact h6
/-- a call is answered alike -/
def O2 (a b : Option (Int32 × ST)) : Prop := ∃ r S M, a = some (r, S) ∧ b = some (r, M) ∧ Rel S M
def O3 (a b : Option (Int64 × ST)) : Prop := ∃ r S M, a = some (r, S) ∧ b = some (r, M) ∧ Rel S M
def isR (r : Int32) : Prop := r = -1 ∨ r = -2 ∨ r = -3 ∨ r = -4 ∨ r = -6
theorem Rel.bump {S M : ST} (h : Rel S M) {j : Nat} (hj : j < 7) : Rel (kS S.1 33 (upd (S.1 33) j (S.1 33 j + 1)), S.2) (kS M.1 1 (upd (M.1 1) j (M.1 1 j + 1)), M.2) := by
  obtain ⟨h1, h2, h3, h4, h5, h6⟩ := h
  refine ⟨h1, h2, h3, h4, h5, fun i hi => ?_⟩
  show (if i = j then S.1 33 j + 1 else S.1 33 i) = (if i = j then M.1 1 j + 1 else M.1 1 i)
  rw [h6 i hi, h6 j hj]
theorem ref_all {S M : ST} (h : Rel S M) {r : Int32} (hr : isR r) (k : Nat) : ∃ S2 M2, f_X3_refuse S r = (r, S2) ∧ f_X4_no M r (k + 200) = some (r, M2) ∧ f_X4_lower M r (k + 200) = some (1000000000 - r, M2) ∧ f_X4_lowest M r (k + 200) = some (4000000000000000000 - Int32.toInt64 r, M2) ∧ Rel S2 M2 := by
  rcases hr with rfl | rfl | rfl | rfl | rfl
  · exact ⟨_, _, rfl, rfl, rfl, rfl, h.bump (j := 1) (by decide)⟩
  · exact ⟨_, _, rfl, rfl, rfl, rfl, h.bump (j := 2) (by decide)⟩
  · exact ⟨_, _, rfl, rfl, rfl, rfl, h.bump (j := 3) (by decide)⟩
  · exact ⟨_, _, rfl, rfl, rfl, rfl, h.bump (j := 4) (by decide)⟩
  · exact ⟨_, _, rfl, rfl, rfl, rfl, h.bump (j := 6) (by decide)⟩
theorem ref_no {S M : ST} (h : Rel S M) {r : Int32} (hr : isR r) (k : Nat) : O2 (some ((f_X3_refuse S r).1, (f_X3_refuse S r).2)) ((f_X4_no M r (k + 200)).bind fun v => some (v.1, v.2)) := by
  obtain ⟨S2, M2, h1, h2, -, -, h3⟩ := ref_all h hr k
  exact ⟨r, S2, M2, by rw [h1], by rw [h2]; rfl, h3⟩
theorem ref_big {S M : ST} (h : Rel S M) {r : Int32} (hr : isR r) (k : Nat) : O2 (some ((f_X3_refuseBig S r).1, (f_X3_refuseBig S r).2)) ((f_X4_lower M r (k + 200)).bind fun v => some (v.1, v.2)) := by
  obtain ⟨S2, M2, h1, -, h2, -, h3⟩ := ref_all h hr k
  exact ⟨1000000000 - r, S2, M2, by rw [f_X3_refuseBig, h1], by rw [h2]; rfl, h3⟩
theorem ref_long {S M : ST} (h : Rel S M) {r : Int32} (hr : isR r) (k : Nat) : O3 (some ((f_X3_refuseLong S r).1, (f_X3_refuseLong S r).2)) ((f_X4_lowest M r (k + 200)).bind fun v => some (v.1, v.2)) := by
  obtain ⟨S2, M2, h1, -, -, h2, h3⟩ := ref_all h hr k
  exact ⟨_, S2, M2, by rw [f_X3_refuseLong, h1], by rw [h2]; rfl, h3⟩
