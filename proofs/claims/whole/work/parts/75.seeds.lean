/-! seeds -/
theorem p_rem32 (x y : Int32) : x - x / y * y = x % y := by
  have hd : x / y = Int32.ofInt (x.toInt.tdiv y.toInt) := by
    apply Int32.toInt_inj.mp
    rw [Int32.toInt_div, Int32.toInt_ofInt]
  have h1 : x - x / y * y = Int32.ofInt (x.toInt - x.toInt.tdiv y.toInt * y.toInt) := by
    rw [Int32.ofInt_sub, Int32.ofInt_mul, Int32.ofInt_toInt, Int32.ofInt_toInt, ← hd]
  have h2 : x.toInt - x.toInt.tdiv y.toInt * y.toInt = x.toInt.tmod y.toInt := by
    rw [Int.tmod_def, Int.mul_comm]
  rw [h1, h2, ← Int32.toInt_mod, Int32.ofInt_toInt]
def dr (s : Int32) : Int32 := ((s &&& 2147483647) / 65536) - ((s &&& 2147483647) / 65536) / 7 * 7
theorem dr_in (s : Int32) : 0 ≤ dr s ∧ dr s < 7 := by
  unfold dr
  have h0 : 0 ≤ (s &&& 2147483647).toInt := by
    show 0 ≤ ((s &&& 2147483647).toBitVec).toInt
    apply BitVec.toInt_nonneg_of_msb_false
    show ((s.toBitVec &&& (2147483647 : Int32).toBitVec)).msb = false
    rw [BitVec.msb_and, show ((2147483647 : Int32).toBitVec).msb = false by decide, Bool.and_false]
  generalize s &&& 2147483647 = y at h0
  have hy : y.toInt < 2147483648 := y.toInt_lt
  have h1 : (y / 65536).toInt = y.toInt / 65536 := by
    rw [Int32.toInt_div, show (65536 : Int32).toInt = 65536 from rfl, Int.tdiv_eq_ediv_of_nonneg h0]
    apply Int.bmod_eq_of_le <;> omega
  have h2 : ((y / 65536) % 7).toInt = (y.toInt / 65536) % 7 := by
    rw [Int32.toInt_mod, h1, show (7 : Int32).toInt = 7 from rfl, Int.tmod_eq_emod_of_nonneg (by omega)]
  have h3 : 0 ≤ (y / 65536) % 7 ∧ (y / 65536) % 7 < 7 := by
    rw [Int32.le_iff_toInt_le, Int32.lt_iff_toInt_lt, h2, show (0 : Int32).toInt = 0 from rfl, show (7 : Int32).toInt = 7 from rfl]
    omega
  rw [← p_rem32] at h3
  exact h3
theorem gain_two {p wm cd h : Int32} (hp : 0 ≤ p ∧ p ≤ 240) (hw : 0 ≤ wm ∧ wm ≤ 99) (hc : 0 ≤ cd ∧ cd ≤ 99) (hh : 0 ≤ h ∧ h < 7) : f_X0_gain (f_X0_gain p (wm * h)) (cd * (24 - h)) = f_X0_gain p (h * wm + (24 - h) * cd) ∧ 0 ≤ f_X0_gain p (h * wm + (24 - h) * cd) ∧ f_X0_gain p (h * wm + (24 - h) * cd) ≤ 240 := by
  obtain ⟨a, ha, rfl⟩ := p_ix (n := 241) (by decide) hp.1 (show p < 241 by have := hp.2; grind)
  obtain ⟨b, hb, rfl⟩ := p_ix (n := 100) (by decide) hw.1 (show wm < 100 by have := hw.2; grind)
  obtain ⟨c, hc2, rfl⟩ := p_ix (n := 100) (by decide) hc.1 (show cd < 100 by have := hc.2; grind)
  obtain ⟨d, hd, rfl⟩ := p_ix (n := 7) (by decide) hh.1 hh.2
  have e24 : (24 : Int32) - Int32.ofNat d = Int32.ofNat (24 - d) := by
    have : d = 0 ∨ d = 1 ∨ d = 2 ∨ d = 3 ∨ d = 4 ∨ d = 5 ∨ d = 6 := by omega
    rcases this with rfl | rfl | rfl | rfl | rfl | rfl | rfl <;> decide
  have m1 : b * d ≤ 99 * 6 := Nat.mul_le_mul (by omega) (by omega)
  have m2 : c * (24 - d) ≤ 99 * 24 := Nat.mul_le_mul (by omega) (by omega)
  rw [e24, ← Int32.ofNat_mul, ← Int32.ofNat_mul, ← Int32.ofNat_mul, ← Int32.ofNat_mul, ← Int32.ofNat_add, Nat.mul_comm d b, Nat.mul_comm (24 - d) c, gain_nat (by omega) (by omega), gain_nat (by omega) (by omega), gain_nat (by omega) (by omega)]
  refine ⟨by congr 1; omega, p_0le _ (by omega), (p_le (b := 240) (by omega) (by omega)).mpr (by omega)⟩
def dayp (kd wm s p : Int32) : Int32 := f_X0_gain p (dr s * wm + (24 - dr s) * f_X0_coldPoints kd)
def wkf (kd wm pr w : Int32) : Nat → Int32 → Int32 → Int32 × Int32 × Int32
  | 0, s, p => (s, 0, p)
  | m + 1, s, p => if buse pr (wv kd (dayp kd wm (f_X3_nextSeed s) p)) w = 0 then wkf kd wm pr w m (f_X3_nextSeed s) (dayp kd wm (f_X3_nextSeed s) p) else (f_X3_nextSeed s, buse pr (wv kd (dayp kd wm (f_X3_nextSeed s) p)) w, dayp kd wm (f_X3_nextSeed s) p)
theorem c_draw (k : Nat) (s : Int32) : f_X3_draw s 7 (k + 200) = some (dr s) := by
  unfold f_X3_draw
  rw [if_neg (by decide), if_neg (by decide)]
  rfl
theorem p_succ (i : Nat) : Int32.ofNat (i + 1) = Int32.ofNat i + 1 := Int32.ofNat_add i 1
theorem c_wk1 (k n : Nat) (kd fg pr w s p x u s2 : Int32) (i : Nat) (hi : i < 7) (S : ST) (e0 : S.1 35 0 = kd) (e1 : S.1 35 1 = fg) (e3 : S.1 35 3 = p) (ep : S.1 0 3 = pr) (hs : f_X3_nextSeed s = s2) (hx : f_X0_gain p (dr s2 * f_X0_warmPoints kd fg + (24 - dr s2) * f_X0_coldPoints kd) = x) (hu : buse pr (wv kd x) w = u) : ∃ S2, f_X3_seeds_L95 w (k + 200) (n + 1) s 0 (Int32.ofNat i) S = f_X3_seeds_L95 w (k + 200) n s2 u (Int32.ofNat i + 1) S2 ∧ S2.1 35 0 = kd ∧ S2.1 35 1 = fg ∧ S2.1 35 2 = S.1 35 2 ∧ S2.1 35 3 = x ∧ ∀ r, r ≠ 35 → S2.1 r = S.1 r := by
  have hl : ¬ (7 : Int32) ≤ Int32.ofNat i := fun z => by have := (p_le (a := 7) (by omega) (by omega)).mp z; omega
  refine ⟨((kS S.1 35 (upd (S.1 35) 3 x)), (kLS S.2 1 (v5 (S.2 1) (wv kd x)))), ?_, e0, e1, rfl, rfl, fun r hr => ?_⟩
  · rw [f_X3_seeds_L95, if_neg hl, if_pos rfl, c_draw, p_bs, c_weigh, p_bs, c_buse, p_bs, v5_bu, e0, e1, e3, ep, hs, hx, hu]
  · show (if r = 35 then _ else S.1 r) = _
    rw [if_neg hr]
theorem c_wkE (k n : Nat) (w s u : Int32) (i : Int32) (S : ST) (h : ¬ u = 0) : f_X3_seeds_L95 w (k + 200) (n + 1) s u i S = some (s, u, i, S) := by
  rw [f_X3_seeds_L95]
  split
  · rfl
  · rfl
theorem c_wkZ (k n : Nat) (w s u : Int32) (S : ST) : f_X3_seeds_L95 w (k + 200) (n + 1) s u (Int32.ofNat 7) S = some (s, u, Int32.ofNat 7, S) := by
  rw [f_X3_seeds_L95, if_pos (by decide)]
theorem wkf_0 (kd wm pr w s p : Int32) : wkf kd wm pr w 0 s p = (s, 0, p) := rfl
theorem wkf_s (kd wm pr w : Int32) (m : Nat) (s p : Int32) : wkf kd wm pr w (m + 1) s p = if buse pr (wv kd (dayp kd wm (f_X3_nextSeed s) p)) w = 0 then wkf kd wm pr w m (f_X3_nextSeed s) (dayp kd wm (f_X3_nextSeed s) p) else (f_X3_nextSeed s, buse pr (wv kd (dayp kd wm (f_X3_nextSeed s) p)) w, dayp kd wm (f_X3_nextSeed s) p) := rfl
theorem c_week (k : Nat) (kd fg pr w : Int32) : ∀ (m i j : Nat) (s p : Int32) (S : ST), i + m = 7 → S.1 35 0 = kd → S.1 35 1 = fg → S.1 35 3 = p → S.1 0 3 = pr → ∃ q S2, f_X3_seeds_L95 w (k + 200) (m + 1 + (j + 1)) s 0 (Int32.ofNat i) S = some ((wkf kd (f_X0_warmPoints kd fg) pr w m s p).1, (wkf kd (f_X0_warmPoints kd fg) pr w m s p).2.1, q, S2) ∧ S2.1 35 3 = (wkf kd (f_X0_warmPoints kd fg) pr w m s p).2.2 ∧ S2.1 35 2 = S.1 35 2 ∧ ∀ r, r ≠ 35 → S2.1 r = S.1 r := by
  intro m
  induction m with
  | zero =>
    intro i j s p S h e0 e1 e3 ep
    obtain rfl : i = 7 := by omega
    refine ⟨Int32.ofNat 7, S, ?_, by rw [wkf_0]; exact e3, rfl, fun _ _ => rfl⟩
    rw [show 0 + 1 + (j + 1) = (j + 1) + 1 by omega, c_wkZ, wkf_0]
  | succ m ih =>
    intro i j s p S h e0 e1 e3 ep
    obtain ⟨S1, a1, a2, a3, a4, a5, a6⟩ := c_wk1 k (m + 1 + (j + 1)) kd fg pr w s p (dayp kd (f_X0_warmPoints kd fg) (f_X3_nextSeed s) p) _ _ i (by omega) S e0 e1 e3 ep rfl rfl rfl
    rw [show m + 1 + 1 + (j + 1) = (m + 1 + (j + 1)) + 1 by omega, a1, wkf_s]
    clear a1
    generalize dayp kd (f_X0_warmPoints kd fg) (f_X3_nextSeed s) p = x at a5 ⊢
    generalize f_X3_nextSeed s = s2
    generalize hu : buse pr (wv kd x) w = u
    by_cases h9 : u = 0
    · rw [if_pos h9, h9]
      obtain ⟨q, S2, g1, g2, g3, g4⟩ := ih (i + 1) j s2 x S1 (by omega) a2 a3 a5 (by rw [a6 0 (by decide)]; exact ep)
      rw [p_succ] at g1
      exact ⟨q, S2, g1, g2, g3.trans a4, fun r hr => (g4 r hr).trans (a6 r hr)⟩
    · rw [if_neg h9, show m + 1 + (j + 1) = (m + 1 + j) + 1 by omega, c_wkE _ _ _ _ _ _ _ h9]
      exact ⟨_, S1, rfl, a5, a4, a6⟩
