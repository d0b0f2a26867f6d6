/-! how great numbers become -/
def Ab (a : Int64) (A : Nat) : Prop := a.toInt.natAbs ≤ A
theorem Ab.add {a b : Int64} {A B : Nat} (h : Ab a A) (h2 : Ab b B) (hl : A + B < 9223372036854775808) : Ab (a + b) (A + B) ∧ (a + b).toInt = a.toInt + b.toInt := by
  unfold Ab at *
  have e : (a + b).toInt = a.toInt + b.toInt := by
    rw [Int64.toInt_add]
    apply Int.bmod_eq_of_le <;> omega
  rw [e]
  exact ⟨by omega, rfl⟩
theorem Ab.sub {a b : Int64} {A B : Nat} (h : Ab a A) (h2 : Ab b B) (hl : A + B < 9223372036854775808) : Ab (a - b) (A + B) ∧ (a - b).toInt = a.toInt - b.toInt := by
  unfold Ab at *
  have e : (a - b).toInt = a.toInt - b.toInt := by
    rw [Int64.toInt_sub]
    apply Int.bmod_eq_of_le <;> omega
  rw [e]
  exact ⟨by omega, rfl⟩
theorem Ab.mul {a b : Int64} {A B : Nat} (h : Ab a A) (h2 : Ab b B) (hl : A * B < 9223372036854775808) : Ab (a * b) (A * B) ∧ (a * b).toInt = a.toInt * b.toInt := by
  unfold Ab at *
  have h3 : (a.toInt * b.toInt).natAbs ≤ A * B := by
    rw [Int.natAbs_mul]
    exact Nat.mul_le_mul h h2
  have e : (a * b).toInt = a.toInt * b.toInt := by
    rw [Int64.toInt_mul]
    apply Int.bmod_eq_of_le <;> omega
  rw [e]
  exact ⟨h3, rfl⟩
theorem Ab.up {a : Int64} {A B : Nat} (h : Ab a A) (hl : A ≤ B) : Ab a B := Nat.le_trans h hl
theorem Ab.i {p : Int32} {A : Nat} (h : p.toInt.natAbs ≤ A) : Ab p.toInt64 A := by
  unfold Ab
  rw [Int32.toInt_toInt64]
  exact h
def Bd (F : Nat → Int64) (X : Nat) : Prop := ∀ i, i < 5 → 0 ≤ (F i).toInt ∧ (F i).toInt ≤ X
theorem Bd.ab {F : Nat → Int64} {X i : Nat} (h : Bd F X) (hi : i < 5) : Ab (F i) X := by
  have := h i hi
  unfold Ab
  omega
theorem Bd.of {F G : Nat → Int64} {X : Nat} (h : Bd F X) (e : E5 G F) : Bd G X := fun i hi => by rw [e i hi]; exact h i hi
theorem net_all : ∀ a : Fin 5, ∀ b : Fin 5, ∀ c : Fin 3, ∀ d : Fin 10, (f_X1_netOf (Int32.ofNat d.1) (Int32.ofNat a.1) (Int32.ofNat b.1) (Int32.ofNat c.1)).toInt.natAbs ≤ 40 := by decide +kernel
theorem net_ab {pr u s w : Int32} (h0 : 0 ≤ pr ∧ pr ≤ 9) (h1 : 0 ≤ u ∧ u < 5) (h2 : 0 ≤ w ∧ w < 3) (h3 : 0 ≤ s ∧ s < 5) : Ab (Int32.toInt64 (f_X1_netOf pr u s w)) 40 := by
  obtain ⟨d, hd, rfl⟩ := p_ix (n := 10) (by decide) h0.1 (show pr < 10 by grind)
  obtain ⟨a, ha, rfl⟩ := p_ix (n := 5) (by decide) h1.1 h1.2
  obtain ⟨b, hb, rfl⟩ := p_ix (n := 5) (by decide) h3.1 h3.2
  obtain ⟨c, hc, rfl⟩ := p_ix (n := 3) (by decide) h2.1 h2.2
  exact Ab.i (net_all ⟨a, ha⟩ ⟨b, hb⟩ ⟨c, hc⟩ ⟨d, hd⟩)
theorem nsum_ab {F : Nat → Int64} {X : Nat} (hF : Bd F X) (hX : X < 1000000000000000) {pr u w : Int32} (h0 : 0 ≤ pr ∧ pr ≤ 9) (h1 : 0 ≤ u ∧ u < 5) (h2 : 0 ≤ w ∧ w < 3) : Ab (nsum pr F u w) (200 * X) := by
  have m : ∀ (s : Int32) (i : Nat), i < 5 → (0 ≤ s ∧ s < 5) → Ab (Int32.toInt64 (f_X1_netOf pr u s w) * F i) (40 * X) := fun s i hi hs => ((net_ab h0 h1 h2 hs).mul (hF.ab hi) (by omega)).1
  have a1 := ((m 0 0 (by decide) (by decide)).add (m 1 1 (by decide) (by decide)) (by omega)).1
  have a2 := (a1.add (m 2 2 (by decide) (by decide)) (by omega)).1
  have a3 := (a2.add (m 3 3 (by decide) (by decide)) (by omega)).1
  have a4 := (a3.add (m 4 4 (by decide) (by decide)) (by omega)).1
  exact a4.up (by omega)
theorem bsum_ab {F : Nat → Int64} {X : Nat} (hF : Bd F X) (hX : X < 1000000000000000) {pr w : Int32} (h0 : 0 ≤ pr ∧ pr ≤ 9) (h2 : 0 ≤ w ∧ w < 3) : Ab (bsum pr F w) (200 * X) := nsum_ab hF hX h0 (buse_in _ _ _) h2
theorem sumv_bd {F : Nat → Int64} {X : Nat} (hF : Bd F X) (hX : X < 1000000000000000) : Ab (sumv F) (5 * X) ∧ (sumv F).toInt = (F 0).toInt + (F 1).toInt + (F 2).toInt + (F 3).toInt + (F 4).toInt := by
  have a1 := (hF.ab (i := 0) (by decide)).add (hF.ab (i := 1) (by decide)) (by omega)
  have a2 := a1.1.add (hF.ab (i := 2) (by decide)) (by omega)
  have a3 := a2.1.add (hF.ab (i := 3) (by decide)) (by omega)
  have a4 := a3.1.add (hF.ab (i := 4) (by decide)) (by omega)
  unfold sumv
  exact ⟨a4.1.up (by omega), by rw [a4.2, a3.2, a2.2, a1.2]⟩
theorem sumv_pos {F : Nat → Int64} {X : Nat} (hF : Bd F X) (hX : X < 1000000000000000) : 0 ≤ (sumv F).toInt := by
  rw [(sumv_bd hF hX).2]
  have h0 := (hF 0 (by decide)).1
  have h1 := (hF 1 (by decide)).1
  have h2 := (hF 2 (by decide)).1
  have h3 := (hF 3 (by decide)).1
  have h4 := (hF 4 (by decide)).1
  omega
theorem tn_in {kd t s : Int32} (o : Int32) (h1 : 0 ≤ kd ∧ kd < 6) (h2 : 0 ≤ t ∧ t < 4) (h3 : 0 ≤ s ∧ s < 5) : 0 ≤ tn kd t o s ∧ tn kd t o s ≤ 10 := by
  have := off_in h1 h2 h3
  unfold tn
  split
  · exact this
  · grind
theorem p_toI {p : Int32} {A : Nat} (hA : A < 2147483648) (h : 0 ≤ p ∧ p ≤ Int32.ofNat A) : 0 ≤ p.toInt ∧ p.toInt ≤ A := by
  have h1 := Int32.le_iff_toInt_le.mp h.1
  have h2 := Int32.le_iff_toInt_le.mp h.2
  rw [Int32.toInt_ofNat_of_lt hA] at h2
  exact ⟨h1, h2⟩
theorem tL_toI {p : Int32} {A : Nat} (hA : A < 2147483648) (h : 0 ≤ p ∧ p ≤ Int32.ofNat A) : 0 ≤ p.toInt64.toInt ∧ p.toInt64.toInt ≤ A := by
  rw [Int32.toInt_toInt64]
  exact p_toI hA h
theorem Bd.nar {F : Nat → Int64} {X : Nat} (hF : Bd F X) (hX : X < 100000000000000) {kd t : Int32} (o : Int32) (h1 : 0 ≤ kd ∧ kd < 6) (h2 : 0 ≤ t ∧ t < 4) : Bd (nar F kd t o) (10 * X) := fun i hi => by
  have h0s : (0 : Int32) ≤ Int32.ofNat i := by rw [show (0 : Int32) = Int32.ofNat 0 from rfl, p_le (by omega) (by omega)]; omega
  have hs5 : Int32.ofNat i < 5 := (p_lt (b := 5) (by omega) (by omega)).mpr hi
  have ht := tL_toI (A := 10) (by decide) (tn_in o h1 h2 ⟨h0s, hs5⟩)
  have hf := hF i hi
  have hm := (hF.ab hi).mul (b := Int32.toInt64 (tn kd t o (Int32.ofNat i))) (B := 10) (by unfold Ab; omega) (by omega)
  show 0 ≤ (F i * Int32.toInt64 (tn kd t o (Int32.ofNat i))).toInt ∧ (F i * Int32.toInt64 (tn kd t o (Int32.ofNat i))).toInt ≤ (10 * X : Nat)
  have h3 := hm.1
  unfold Ab at h3
  rw [hm.2] at h3 ⊢
  have := Int.mul_nonneg hf.1 ht.1
  omega
def wf (kd st s : Int32) : Int32 := if kd = 3 then ((if (0 : Int32) < (6 - (2 * (if 0 ≤ (s - st) then (s - st) else 0 - (s - st)))) then (6 - (2 * (if 0 ≤ (s - st) then (s - st) else 0 - (s - st)))) else (0 : Int32)) + 1) else (if (0 : Int32) < (6 - (2 * (if 0 ≤ (s - st) then (s - st) else 0 - (s - st)))) then (6 - (2 * (if 0 ≤ (s - st) then (s - st) else 0 - (s - st)))) else (0 : Int32))
theorem wf_eq (kd pt s : Int32) : f_X0_weightOf kd pt s = wf kd (f_X0_trueStage pt) s := rfl
theorem wf_all : ∀ a : Fin 6, ∀ b : Fin 5, ∀ c : Fin 5, 0 ≤ wf (Int32.ofNat a.1) (Int32.ofNat b.1) (Int32.ofNat c.1) ∧ wf (Int32.ofNat a.1) (Int32.ofNat b.1) (Int32.ofNat c.1) ≤ 7 ∧ (b.1 = c.1 → 6 ≤ wf (Int32.ofNat a.1) (Int32.ofNat b.1) (Int32.ofNat c.1)) := by decide +kernel
theorem st_all : ∀ a : Fin 241, 0 ≤ f_X0_trueStage (Int32.ofNat a.1) ∧ f_X0_trueStage (Int32.ofNat a.1) < 5 := by decide +kernel
theorem st_in {pt : Int32} (h : 0 ≤ pt ∧ pt ≤ 240) : 0 ≤ f_X0_trueStage pt ∧ f_X0_trueStage pt < 5 := by
  obtain ⟨a, ha, rfl⟩ := p_ix (n := 241) (by decide) h.1 (show pt < 241 by grind)
  exact st_all ⟨a, ha⟩
theorem wv_bd {kd pt : Int32} (h1 : 0 ≤ kd ∧ kd < 6) (h2 : 0 ≤ pt ∧ pt ≤ 240) : Bd (wv kd pt) 7 := fun i hi => by
  obtain ⟨a, ha, rfl⟩ := p_ix (n := 6) (by decide) h1.1 h1.2
  obtain ⟨b, hb, e⟩ := p_ix (n := 5) (by decide) (st_in h2).1 (st_in h2).2
  have := wf_all ⟨a, ha⟩ ⟨b, hb⟩ ⟨i, hi⟩
  unfold wv
  rw [wf_eq, e]
  exact tL_toI (A := 7) (by decide) ⟨this.1, this.2.1⟩
theorem wv_pos {kd pt : Int32} (h1 : 0 ≤ kd ∧ kd < 6) (h2 : 0 ≤ pt ∧ pt ≤ 240) : 0 < (sumv (wv kd pt)).toInt := by
  have hb := wv_bd h1 h2
  rw [(sumv_bd hb (by decide)).2]
  have h0 := (hb 0 (by decide)).1
  have g1 := (hb 1 (by decide)).1
  have g2 := (hb 2 (by decide)).1
  have h3 := (hb 3 (by decide)).1
  have h4 := (hb 4 (by decide)).1
  obtain ⟨b, hb5, e⟩ := p_ix (n := 5) (by decide) (st_in h2).1 (st_in h2).2
  have key : 6 ≤ (wv kd pt b).toInt := by
    obtain ⟨a, ha, rfl⟩ := p_ix (n := 6) (by decide) h1.1 h1.2
    have h6 := (wf_all ⟨a, ha⟩ ⟨b, hb5⟩ ⟨b, hb5⟩).2.2 rfl
    unfold wv
    rw [wf_eq, e, Int32.toInt_toInt64]
    exact Int32.le_iff_toInt_le.mp h6
  have : b = 0 ∨ b = 1 ∨ b = 2 ∨ b = 3 ∨ b = 4 := by omega
  rcases this with rfl | rfl | rfl | rfl | rfl <;> omega
theorem tvn_bd {kd pt : Int32} (h1 : 0 ≤ kd ∧ kd < 6) (h2 : 0 ≤ pt ∧ pt ≤ 240) {T O : Nat → Int32} : ∀ n, n ≤ 8 → (∀ i, i < n → 0 ≤ T i ∧ T i < 4) → Bd (tvn kd pt T O n) (7 * 10 ^ n)
  | 0, _, _ => wv_bd h1 h2
  | n + 1, h, hT => by
    have ih := tvn_bd h1 h2 (T := T) (O := O) n (by omega) (fun i hi => hT i (by omega))
    have hp : 10 ^ n ≤ 10 ^ 7 := Nat.pow_le_pow_right (by decide) (by omega)
    have := ih.nar (by omega) (O n) h1 (hT n (by omega))
    rw [tvn, Nat.pow_succ]
    intro i hi
    have := this i hi
    omega
theorem TV_bd {S M : ST} (R : Rel S M) (h : jIn (S.1 0 0) (S.1 0 1)) : Bd (TV S) 700000000 := by
  have g := R.at h
  obtain ⟨c, hc, e, -⟩ := R.seen
  unfold TV
  rw [e, p_tn (by omega)]
  have hp : 10 ^ c ≤ 10 ^ 8 := Nat.pow_le_pow_right (by decide) hc
  have := tvn_bd g.2.2.2.1 g.2.2.2.2.2.2 (T := S.1 1) (O := S.1 2) c hc (fun i hi => (R.g.2.1 i (by omega)).1)
  intro i hi
  have := this i hi
  unfold jj
  omega
