/-! rows of five numbers; what the tables say; what a row is worth -/
theorem p_2 {p : Int32} (h0 : 0 ≤ p) (h1 : p < 2) : p = 0 ∨ p = 1 := by grind
theorem p_3 {p : Int32} (h0 : 0 ≤ p) (h1 : p < 3) : p = 0 ∨ p = 1 ∨ p = 2 := by grind
theorem p_4 {p : Int32} (h0 : 0 ≤ p) (h1 : p < 4) : p = 0 ∨ p = 1 ∨ p = 2 ∨ p = 3 := by grind
theorem p_5 {p : Int32} (h0 : 0 ≤ p) (h1 : p < 5) : p = 0 ∨ p = 1 ∨ p = 2 ∨ p = 3 ∨ p = 4 := by grind
theorem p_6 {p : Int32} (h0 : 0 ≤ p) (h1 : p < 6) : p = 0 ∨ p = 1 ∨ p = 2 ∨ p = 3 ∨ p = 4 ∨ p = 5 := by grind
def v5 (F G : Nat → Int64) : Nat → Int64 := fun i => if i < 5 then G i else F i
theorem v5_up {F G : Nat → Int64} : vp_updL (vp_updL (vp_updL (vp_updL (vp_updL F 0 (G 0)) 1 (G 1)) 2 (G 2)) 3 (G 3)) 4 (G 4) = v5 F G := by
  funext i
  unfold v5 vp_updL
  match i with
  | 0 => rfl
  | 1 => rfl
  | 2 => rfl
  | 3 => rfl
  | 4 => rfl
  | i + 5 =>
    have h : ¬ i + 5 < 5 := by omega
    simp [h]
def wv (kd pt : Int32) : Nat → Int64 := fun i => Int32.toInt64 (f_X0_weightOf kd pt (Int32.ofNat i))
def tn (kd t o s : Int32) : Int32 := if o = 1 then f_X0_offTenths kd t s else 10 - f_X0_offTenths kd t s
def nar (F : Nat → Int64) (kd t o : Int32) : Nat → Int64 := fun i => F i * Int32.toInt64 (tn kd t o (Int32.ofNat i))
def sumv (F : Nat → Int64) : Int64 := F 0 + F 1 + F 2 + F 3 + F 4
def nsum (pr : Int32) (F : Nat → Int64) (u w : Int32) : Int64 := Int32.toInt64 (f_X1_netOf pr u 0 w) * F 0 + Int32.toInt64 (f_X1_netOf pr u 1 w) * F 1 + Int32.toInt64 (f_X1_netOf pr u 2 w) * F 2 + Int32.toInt64 (f_X1_netOf pr u 3 w) * F 3 + Int32.toInt64 (f_X1_netOf pr u 4 w) * F 4
def stb (g : Int32 → Int64) (b u : Int32) : Int32 := if g b < g u then u else b
def buse (pr : Int32) (F : Nat → Int64) (w : Int32) : Int32 := stb (fun u => nsum pr F u w) (stb (fun u => nsum pr F u w) (stb (fun u => nsum pr F u w) (stb (fun u => nsum pr F u w) 0 1) 2) 3) 4
def bsum (pr : Int32) (F : Nat → Int64) (w : Int32) : Int64 := nsum pr F (buse pr F w) w
def E5 (F G : Nat → Int64) : Prop := ∀ i, i < 5 → F i = G i
theorem E5.n {F G : Nat → Int64} (h : E5 F G) (pr u w : Int32) : nsum pr F u w = nsum pr G u w := by
  unfold nsum
  rw [h 0 (by decide), h 1 (by decide), h 2 (by decide), h 3 (by decide), h 4 (by decide)]
theorem E5.b {F G : Nat → Int64} (h : E5 F G) (pr w : Int32) : buse pr F w = buse pr G w := by
  unfold buse
  simp only [h.n]
theorem E5.s {F G : Nat → Int64} (h : E5 F G) (pr w : Int32) : bsum pr F w = bsum pr G w := by
  unfold bsum
  rw [h.b, h.n]
theorem E5.a {F G : Nat → Int64} (h : E5 F G) : sumv F = sumv G := by
  unfold sumv
  rw [h 0 (by decide), h 1 (by decide), h 2 (by decide), h 3 (by decide), h 4 (by decide)]
theorem E5.nar {F G : Nat → Int64} (h : E5 F G) (kd t o : Int32) : E5 (nar F kd t o) (nar G kd t o) := fun i hi => by
  show F i * _ = G i * _
  rw [h i hi]
theorem E5.v {F G : Nat → Int64} : E5 (v5 F G) G := fun i hi => by
  unfold v5
  rw [if_pos hi]
theorem E5.trans {F G H : Nat → Int64} (h : E5 F G) (h2 : E5 G H) : E5 F H := fun i hi => (h i hi).trans (h2 i hi)
theorem E5.symm {F G : Nat → Int64} (h : E5 F G) : E5 G F := fun i hi => (h i hi).symm
theorem c_weigh (k : Nat) (F : Nat → Int64) (kd pt : Int32) : f_X2_weigh F kd pt (k + 200) = some (v5 F (wv kd pt)) := by
  unfold f_X2_weigh
  simp [f_X2_weigh_L2]
  exact v5_up (G := wv kd pt)
theorem c_sumOf (k : Nat) (F : Nat → Int64) (s : Nat) (hs : s < 5) : f_X2_sumOf F (Int32.ofNat s) (Int32.ofNat s) (k + 200) = some (F s) := by
  have : s = 0 ∨ s = 1 ∨ s = 2 ∨ s = 3 ∨ s = 4 := by omega
  rcases this with rfl | rfl | rfl | rfl | rfl <;> simp [f_X2_sumOf, f_X2_sumOf_L9]
theorem c_sum0 (k : Nat) (F : Nat → Int64) : f_X2_sumOf F 0 0 (k + 200) = some (F 0) := c_sumOf k F 0 (by decide)
theorem c_sum1 (k : Nat) (F : Nat → Int64) : f_X2_sumOf F 1 1 (k + 200) = some (F 1) := c_sumOf k F 1 (by decide)
theorem c_sum2 (k : Nat) (F : Nat → Int64) : f_X2_sumOf F 2 2 (k + 200) = some (F 2) := c_sumOf k F 2 (by decide)
theorem c_sum3 (k : Nat) (F : Nat → Int64) : f_X2_sumOf F 3 3 (k + 200) = some (F 3) := c_sumOf k F 3 (by decide)
theorem c_sum4 (k : Nat) (F : Nat → Int64) : f_X2_sumOf F 4 4 (k + 200) = some (F 4) := c_sumOf k F 4 (by decide)
theorem c_sum01 (k : Nat) (F : Nat → Int64) : f_X2_sumOf F 0 1 (k + 200) = some (F 0 + F 1) := by
  simp [f_X2_sumOf, f_X2_sumOf_L9]
theorem c_sumAll (k : Nat) (F : Nat → Int64) : f_X2_sumOfAll F (k + 200) = some (sumv F) := by
  simp [f_X2_sumOfAll, f_X2_sumOf, f_X2_sumOf_L9, sumv]
theorem c_narrow (k : Nat) (F F1 : Nat → Int64) (kd t o : Int32) : f_X2_narrow F F1 kd t o (k + 200) = some (v5 F (nar F1 kd t o)) := by
  rw [← v5_up]
  unfold f_X2_narrow nar tn
  by_cases h : o = 1 <;> simp [f_X2_narrow_L3, c_sum0, c_sum1, c_sum2, c_sum3, c_sum4, h]
theorem c_narrow_s (k : Nat) (F : Nat → Int64) (kd t o : Int32) : f_X2_narrow_s F kd t o (k + 200) = some (v5 F (nar F kd t o)) := by
  rw [← v5_up]
  unfold f_X2_narrow_s nar tn
  by_cases h : o = 1 <;> simp [f_X2_narrow_s_L3, c_sum0, c_sum1, c_sum2, c_sum3, c_sum4, h, vp_updL]
theorem c_nsum (k : Nat) (pr : Int32) (F : Nat → Int64) (u w : Int32) : f_X1_netSum pr F u w (k + 200) = some (nsum pr F u w) := by
  simp [f_X1_netSum, f_X1_netSum_L6, c_sum0, c_sum1, c_sum2, c_sum3, c_sum4, nsum]
theorem c_bu_step (k n : Nat) (pr : Int32) (F : Nat → Int64) (w b u u2 : Int32) (h : ¬ (5 : Int32) ≤ u) (hu : u + 1 = u2) : f_X1_bestUse_L14 w pr F (k + 200) (n + 1) b (nsum pr F b w) u = f_X1_bestUse_L14 w pr F (k + 200) n (stb (fun u => nsum pr F u w) b u) (nsum pr F (stb (fun u => nsum pr F u w) b u) w) u2 := by
  subst hu
  rw [f_X1_bestUse_L14, if_neg h, c_nsum]
  simp only [Option.bind_some, lg_cmp_le, stb]
  by_cases h2 : nsum pr F u w ≤ nsum pr F b w
  · rw [if_pos h2, if_neg (c := nsum pr F b w < nsum pr F u w) (by grind)]
  · rw [if_neg h2, if_pos (c := nsum pr F b w < nsum pr F u w) (by grind)]
theorem c_bu_end (k n : Nat) (pr : Int32) (F : Nat → Int64) (w b : Int32) (x : Int64) : f_X1_bestUse_L14 w pr F (k + 200) (n + 1) b x 5 = some (b, x, 5) := by
  rw [f_X1_bestUse_L14, if_pos (by decide)]
theorem c_bu4 (k : Nat) (pr : Int32) (F : Nat → Int64) (w : Int32) : f_X1_bestUse_L14 w pr F (k + 200) (k + 200) 0 (nsum pr F 0 w) 1 = some (buse pr F w, bsum pr F w, 5) :=
  (c_bu_step k (k + 199) pr F w 0 1 2 (by decide) (by decide)).trans ((c_bu_step k (k + 198) pr F w _ 2 3 (by decide) (by decide)).trans ((c_bu_step k (k + 197) pr F w _ 3 4 (by decide) (by decide)).trans ((c_bu_step k (k + 196) pr F w _ 4 5 (by decide) (by decide)).trans (c_bu_end k (k + 195) pr F w _ _))))
theorem c_buse (k : Nat) (pr : Int32) (F : Nat → Int64) (w : Int32) : f_X1_bestUse pr F w (k + 200) = some (buse pr F w) := by
  unfold f_X1_bestUse
  rw [c_nsum, Option.bind_some, c_bu4, Option.bind_some]
theorem c_bs_step (k n : Nat) (pr : Int32) (F : Nat → Int64) (w b u u2 : Int32) (h : ¬ (5 : Int32) ≤ u) (hu : u + 1 = u2) : f_X1_bestSum_L11 w pr F (k + 200) (n + 1) (nsum pr F b w) u = f_X1_bestSum_L11 w pr F (k + 200) n (nsum pr F (stb (fun u => nsum pr F u w) b u) w) u2 := by
  subst hu
  rw [f_X1_bestSum_L11, if_neg h, c_nsum]
  simp only [Option.bind_some, stb]
  congr 1
  by_cases h2 : nsum pr F b w < nsum pr F u w
  · rw [if_pos h2, if_neg (by grind)]
  · rw [if_neg h2]
    split <;> grind
theorem c_bs_end (k n : Nat) (pr : Int32) (F : Nat → Int64) (w : Int32) (x : Int64) : f_X1_bestSum_L11 w pr F (k + 200) (n + 1) x 5 = some (x, 5) := by
  rw [f_X1_bestSum_L11, if_pos (by decide)]
theorem c_bs4 (k : Nat) (pr : Int32) (F : Nat → Int64) (w : Int32) : f_X1_bestSum_L11 w pr F (k + 200) (k + 200) (nsum pr F 0 w) 1 = some (bsum pr F w, 5) :=
  (c_bs_step k (k + 199) pr F w 0 1 2 (by decide) (by decide)).trans ((c_bs_step k (k + 198) pr F w _ 2 3 (by decide) (by decide)).trans ((c_bs_step k (k + 197) pr F w _ 3 4 (by decide) (by decide)).trans ((c_bs_step k (k + 196) pr F w _ 4 5 (by decide) (by decide)).trans (c_bs_end k (k + 195) pr F w _))))
theorem c_bsum (k : Nat) (pr : Int32) (F : Nat → Int64) (w : Int32) : f_X1_bestSum pr F w (k + 200) = some (bsum pr F w) := by
  unfold f_X1_bestSum
  rw [c_nsum, Option.bind_some, c_bs4, Option.bind_some]
/-! the reference's tables -/
def soF (kd t s : Int32) : Int32 := f_X4_held (f_X4_tenthsOf t s + (if t = 3 ∧ kd = 3 then -2 else if t = 0 then (if kd = 1 ∨ kd = 5 then 1 else if kd = 2 ∨ kd = 4 then -1 else 0) else 0))
theorem soF_all : ∀ a : Fin 6, ∀ b : Fin 4, ∀ c : Fin 5, soF (Int32.ofNat a.1) (Int32.ofNat b.1) (Int32.ofNat c.1) = f_X0_offTenths (Int32.ofNat a.1) (Int32.ofNat b.1) (Int32.ofNat c.1) := by decide +kernel
theorem soF_eq {kd t s : Int32} (h1 : 0 ≤ kd ∧ kd < 6) (h2 : 0 ≤ t ∧ t < 4) (h3 : 0 ≤ s ∧ s < 5) : soF kd t s = f_X0_offTenths kd t s := by
  obtain ⟨a, ha, rfl⟩ := p_ix (n := 6) (by decide) h1.1 h1.2
  obtain ⟨b, hb, rfl⟩ := p_ix (n := 4) (by decide) h2.1 h2.2
  obtain ⟨c, hc, rfl⟩ := p_ix (n := 5) (by decide) h3.1 h3.2
  exact soF_all ⟨a, ha⟩ ⟨b, hb⟩ ⟨c, hc⟩
theorem off_all : ∀ a : Fin 6, ∀ b : Fin 4, ∀ c : Fin 5, 0 ≤ f_X0_offTenths (Int32.ofNat a.1) (Int32.ofNat b.1) (Int32.ofNat c.1) ∧ f_X0_offTenths (Int32.ofNat a.1) (Int32.ofNat b.1) (Int32.ofNat c.1) ≤ 10 := by decide +kernel
theorem off_in {kd t s : Int32} (h1 : 0 ≤ kd ∧ kd < 6) (h2 : 0 ≤ t ∧ t < 4) (h3 : 0 ≤ s ∧ s < 5) : 0 ≤ f_X0_offTenths kd t s ∧ f_X0_offTenths kd t s ≤ 10 := by
  obtain ⟨a, ha, rfl⟩ := p_ix (n := 6) (by decide) h1.1 h1.2
  obtain ⟨b, hb, rfl⟩ := p_ix (n := 4) (by decide) h2.1 h2.2
  obtain ⟨c, hc, rfl⟩ := p_ix (n := 5) (by decide) h3.1 h3.2
  exact off_all ⟨a, ha⟩ ⟨b, hb⟩ ⟨c, hc⟩
theorem harm_all : ∀ a : Fin 5, ∀ b : Fin 5, f_X4_harmOf (Int32.ofNat a.1) (Int32.ofNat b.1) = f_X3_harmOf (Int32.ofNat a.1) (Int32.ofNat b.1) := by decide +kernel
theorem harm_eq {u s : Int32} (h1 : 0 ≤ u ∧ u < 5) (h2 : 0 ≤ s ∧ s < 5) : f_X4_harmOf u s = f_X3_harmOf u s := by
  obtain ⟨a, ha, rfl⟩ := p_ix (n := 5) (by decide) h1.1 h1.2
  obtain ⟨b, hb, rfl⟩ := p_ix (n := 5) (by decide) h2.1 h2.2
  exact harm_all ⟨a, ha⟩ ⟨b, hb⟩
theorem times_all : ∀ a : Fin 3, f_X4_timesFor (Int32.ofNat a.1) = f_X3_at_s 3 (Int32.ofNat a.1) := by decide +kernel
theorem times_eq {w : Int32} (h1 : 0 ≤ w ∧ w < 3) : f_X4_timesFor w = f_X3_at_s 3 w := by
  obtain ⟨a, ha, rfl⟩ := p_ix (n := 3) (by decide) h1.1 h1.2
  exact times_all ⟨a, ha⟩
theorem net_eq (M : (Nat → Nat → Int32) × (Nat → Nat → Int64)) {u w s : Int32} (h1 : 0 ≤ u ∧ u < 5) (h2 : 0 ≤ w ∧ w < 3) (h3 : 0 ≤ s ∧ s < 5) : f_X4_netOf M u w s = f_X1_netOf (M.1 0 4) u s w := by
  unfold f_X4_netOf f_X1_netOf
  rw [harm_eq h1 h3, times_eq h2]
  unfold f_X3_harmOf
  have e : ∀ x y : Int32, x = y → x - f_X3_at_s 2 (u * 5 + s) * f_X3_at_s 3 w = y - f_X3_at_s 2 (u * 5 + s) * f_X3_at_s 3 w := fun x y h => by rw [h]
  by_cases h4 : u = 4
  · rw [if_pos h4]
    apply e
    subst h4
    rfl
  · rw [if_neg h4]
    apply e
    have hu : u = 0 ∨ u = 1 ∨ u = 2 ∨ u = 3 := by rcases p_5 h1.1 h1.2 with h | h | h | h | h <;> simp_all
    rcases p_5 h3.1 h3.2 with rfl | rfl | rfl | rfl | rfl <;> rcases hu with rfl | rfl | rfl | rfl <;> rfl
