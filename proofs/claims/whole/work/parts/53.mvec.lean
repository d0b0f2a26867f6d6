/-! the reference's numbers are the same -/
def HM (A : Nat → Nat → Int32) (kd pt cp : Int32) : Prop := (0 ≤ A 0 1 ∧ A 0 1 < 5) ∧ A 2 (Int32.toNatClampNeg (A 0 1)) = kd ∧ A 5 (Int32.toNatClampNeg (A 0 1)) = pt ∧ A 4 (Int32.toNatClampNeg (A 0 1)) = cp ∧ (0 ≤ kd ∧ kd < 6) ∧ (0 ≤ pt ∧ pt ≤ 240)
theorem HM.nb {A : Nat → Nat → Int32} {kd pt cp : Int32} (h : HM A kd pt cp) : ¬ (A 0 1 < 0 ∨ 5 ≤ Int32.toNatClampNeg (A 0 1)) := p_nb (n := 5) (by decide) h.1.1 h.1.2
theorem m_saysOff {A : Nat → Nat → Int32} {kd pt cp : Int32} (h : HM A kd pt cp) (k : Nat) (B : Nat → Nat → Int64) {t s : Int32} (ht : 0 ≤ t ∧ t < 4) (hs : 0 ≤ s ∧ s < 5) : f_X4_saysOff (A, B) t s (k + 200) = some (f_X0_offTenths kd t s) := by
  rw [← soF_eq h.2.2.2.2.1 ht hs]
  unfold f_X4_saysOff soF
  dsimp only
  simp only [if_neg h.nb, h.2.1]
  rcases p_4 ht.1 ht.2 with rfl | rfl | rfl | rfl <;> rcases p_6 h.2.2.2.2.1.1 h.2.2.2.2.1.2 with e | e | e | e | e | e <;> simp [e]
theorem m_stage (v : Int32) : f_X4_stageAt v = f_X0_trueStage v := by
  unfold f_X4_stageAt f_X0_trueStage
  split <;> split <;> grind
theorem p_mx (y : Int32) : (if (0 : Int32) < y then y else 0) = if 0 ≤ y then y else 0 := by
  split <;> split <;> grind
theorem m_weightAt (A : Nat → Nat → Int32) (B : Nat → Nat → Int64) (k : Nat) {j : Int32} (hj : 0 ≤ j ∧ j < 5) (v s : Int32) : f_X4_weightAt (A, B) j v s (k + 200) = some (f_X0_weightOf (A 2 (Int32.toNatClampNeg j)) v s) := by
  unfold f_X4_weightAt f_X0_weightOf
  rw [m_stage]
  generalize s - f_X0_trueStage v = d
  simp only [if_neg (p_nb (n := 5) (by decide) hj.1 hj.2)]
  have e1 : (0 : Int32) - d = -d := by grind
  rw [e1, p_mx]
  have e0 : ∀ y : Int32, y + 0 = y := fun y => by grind
  by_cases hk : A 2 (Int32.toNatClampNeg j) = 3 <;> by_cases hd : 0 ≤ d <;> simp only [hk, hd, if_true, if_false, e0]
  · split <;> rfl
  · split <;> rfl
  · split <;> rfl
  · split <;> rfl
theorem m_all0 (k : Nat) (M : (Nat → Nat → Int32) × (Nat → Nat → Int64)) : f_X4_allThought M (k + 200) = some (sumv (M.2 0)) := by
  simp [f_X4_allThought, f_X4_allThought_L4, sumv]
theorem m_all1 (k : Nat) (M : (Nat → Nat → Int32) × (Nat → Nat → Int64)) : f_X4_allParts M (k + 200) = some (sumv (M.2 1)) := by
  simp [f_X4_allParts, f_X4_allParts_L4, sumv]
theorem m_all2 (k : Nat) (M : (Nat → Nat → Int32) × (Nat → Nat → Int64)) : ∃ q, f_X4_join_L123 M (k + 200) (k + 200) 0 0 = some (sumv (M.2 2), q) := by
  exact ⟨5, by simp [f_X4_join_L123, sumv]⟩
theorem stb_in {g : Int32 → Int64} {b u : Int32} (hb : 0 ≤ b ∧ b < 5) (hu : 0 ≤ u ∧ u < 5) : 0 ≤ stb g b u ∧ stb g b u < 5 := by
  unfold stb
  split
  · exact hu
  · exact hb
theorem buse_in (pr : Int32) (F : Nat → Int64) (w : Int32) : 0 ≤ buse pr F w ∧ buse pr F w < 5 := stb_in (stb_in (stb_in (stb_in (by decide) (by decide)) (by decide)) (by decide)) (by decide)
theorem m_net0 (k : Nat) (M : (Nat → Nat → Int32) × (Nat → Nat → Int64)) {u w : Int32} (hu : 0 ≤ u ∧ u < 5) (hw : 0 ≤ w ∧ w < 3) : f_X4_netBy_0 M u w (k + 200) = some (nsum (M.1 0 4) (M.2 0) u w) := by
  simp [f_X4_netBy_0, f_X4_netBy_0_L6, nsum, net_eq M hu hw (s := 0) (by decide), net_eq M hu hw (s := 1) (by decide), net_eq M hu hw (s := 2) (by decide), net_eq M hu hw (s := 3) (by decide), net_eq M hu hw (s := 4) (by decide), Int64.mul_comm]
theorem m_bu0_step (k n : Nat) (M : (Nat → Nat → Int32) × (Nat → Nat → Int64)) {w b u u2 : Int32} (hw : 0 ≤ w ∧ w < 3) (hb : 0 ≤ b ∧ b < 5) (h5 : 0 ≤ u ∧ u < 5) (hu : u + 1 = u2) : f_X4_bestUse_0_L5 w M (k + 200) (n + 1) b u = f_X4_bestUse_0_L5 w M (k + 200) n (stb (fun u => nsum (M.1 0 4) (M.2 0) u w) b u) u2 := by
  subst hu
  rw [f_X4_bestUse_0_L5, if_neg (by grind), m_net0 k M h5 hw, m_net0 k M hb hw]
  simp only [Option.bind_some, lg_cmp_le, stb]
  by_cases h2 : nsum (M.1 0 4) (M.2 0) u w ≤ nsum (M.1 0 4) (M.2 0) b w
  · rw [if_pos h2, if_neg (c := nsum (M.1 0 4) (M.2 0) b w < nsum (M.1 0 4) (M.2 0) u w) (by grind)]
  · rw [if_neg h2, if_pos (c := nsum (M.1 0 4) (M.2 0) b w < nsum (M.1 0 4) (M.2 0) u w) (by grind)]
theorem m_bu0_end (k n : Nat) (M : (Nat → Nat → Int32) × (Nat → Nat → Int64)) (w b : Int32) : f_X4_bestUse_0_L5 w M (k + 200) (n + 1) b 5 = some (b, 5) := by
  rw [f_X4_bestUse_0_L5, if_pos (by decide)]
theorem m_bu04 (k : Nat) (M : (Nat → Nat → Int32) × (Nat → Nat → Int64)) {w : Int32} (hw : 0 ≤ w ∧ w < 3) : f_X4_bestUse_0_L5 w M (k + 200) (k + 200) 0 1 = some (buse (M.1 0 4) (M.2 0) w, 5) :=
  (m_bu0_step k (k + 199) M hw (b := 0) (u := 1) (u2 := 2) (by decide) (by decide) (by decide)).trans ((m_bu0_step k (k + 198) M hw (u := 2) (u2 := 3) (stb_in (by decide) (by decide)) (by decide) (by decide)).trans ((m_bu0_step k (k + 197) M hw (u := 3) (u2 := 4) (stb_in (stb_in (by decide) (by decide)) (by decide)) (by decide) (by decide)).trans ((m_bu0_step k (k + 196) M hw (u := 4) (u2 := 5) (stb_in (stb_in (stb_in (by decide) (by decide)) (by decide)) (by decide)) (by decide) (by decide)).trans (m_bu0_end k (k + 195) M w _))))
theorem m_buse0 (k : Nat) (M : (Nat → Nat → Int32) × (Nat → Nat → Int64)) {w : Int32} (hw : 0 ≤ w ∧ w < 3) : f_X4_bestUse_0 M w (k + 200) = some (buse (M.1 0 4) (M.2 0) w) := by
  unfold f_X4_bestUse_0
  rw [m_bu04 k M hw, Option.bind_some]
theorem m_bsum0 (k : Nat) (M : (Nat → Nat → Int32) × (Nat → Nat → Int64)) {w : Int32} (hw : 0 ≤ w ∧ w < 3) : f_X4_bestNet_0 M w (k + 200) = some (bsum (M.1 0 4) (M.2 0) w) := by
  unfold f_X4_bestNet_0
  rw [m_buse0 k M hw, Option.bind_some, m_net0 k M (buse_in _ _ _) hw]
  rfl
theorem m_net1 (k : Nat) (M : (Nat → Nat → Int32) × (Nat → Nat → Int64)) {u w : Int32} (hu : 0 ≤ u ∧ u < 5) (hw : 0 ≤ w ∧ w < 3) : f_X4_netBy_1 M u w (k + 200) = some (nsum (M.1 0 4) (M.2 1) u w) := by
  simp [f_X4_netBy_1, f_X4_netBy_1_L6, nsum, net_eq M hu hw (s := 0) (by decide), net_eq M hu hw (s := 1) (by decide), net_eq M hu hw (s := 2) (by decide), net_eq M hu hw (s := 3) (by decide), net_eq M hu hw (s := 4) (by decide), Int64.mul_comm]
theorem m_bu1_step (k n : Nat) (M : (Nat → Nat → Int32) × (Nat → Nat → Int64)) {w b u u2 : Int32} (hw : 0 ≤ w ∧ w < 3) (hb : 0 ≤ b ∧ b < 5) (h5 : 0 ≤ u ∧ u < 5) (hu : u + 1 = u2) : f_X4_bestUse_1_L5 w M (k + 200) (n + 1) b u = f_X4_bestUse_1_L5 w M (k + 200) n (stb (fun u => nsum (M.1 0 4) (M.2 1) u w) b u) u2 := by
  subst hu
  rw [f_X4_bestUse_1_L5, if_neg (by grind), m_net1 k M h5 hw, m_net1 k M hb hw]
  simp only [Option.bind_some, lg_cmp_le, stb]
  by_cases h2 : nsum (M.1 0 4) (M.2 1) u w ≤ nsum (M.1 0 4) (M.2 1) b w
  · rw [if_pos h2, if_neg (c := nsum (M.1 0 4) (M.2 1) b w < nsum (M.1 0 4) (M.2 1) u w) (by grind)]
  · rw [if_neg h2, if_pos (c := nsum (M.1 0 4) (M.2 1) b w < nsum (M.1 0 4) (M.2 1) u w) (by grind)]
theorem m_bu1_end (k n : Nat) (M : (Nat → Nat → Int32) × (Nat → Nat → Int64)) (w b : Int32) : f_X4_bestUse_1_L5 w M (k + 200) (n + 1) b 5 = some (b, 5) := by
  rw [f_X4_bestUse_1_L5, if_pos (by decide)]
theorem m_bu14 (k : Nat) (M : (Nat → Nat → Int32) × (Nat → Nat → Int64)) {w : Int32} (hw : 0 ≤ w ∧ w < 3) : f_X4_bestUse_1_L5 w M (k + 200) (k + 200) 0 1 = some (buse (M.1 0 4) (M.2 1) w, 5) :=
  (m_bu1_step k (k + 199) M hw (b := 0) (u := 1) (u2 := 2) (by decide) (by decide) (by decide)).trans ((m_bu1_step k (k + 198) M hw (u := 2) (u2 := 3) (stb_in (by decide) (by decide)) (by decide) (by decide)).trans ((m_bu1_step k (k + 197) M hw (u := 3) (u2 := 4) (stb_in (stb_in (by decide) (by decide)) (by decide)) (by decide) (by decide)).trans ((m_bu1_step k (k + 196) M hw (u := 4) (u2 := 5) (stb_in (stb_in (stb_in (by decide) (by decide)) (by decide)) (by decide)) (by decide) (by decide)).trans (m_bu1_end k (k + 195) M w _))))
theorem m_buse1 (k : Nat) (M : (Nat → Nat → Int32) × (Nat → Nat → Int64)) {w : Int32} (hw : 0 ≤ w ∧ w < 3) : f_X4_bestUse_1 M w (k + 200) = some (buse (M.1 0 4) (M.2 1) w) := by
  unfold f_X4_bestUse_1
  rw [m_bu14 k M hw, Option.bind_some]
theorem m_bsum1 (k : Nat) (M : (Nat → Nat → Int32) × (Nat → Nat → Int64)) {w : Int32} (hw : 0 ≤ w ∧ w < 3) : f_X4_bestNet_1 M w (k + 200) = some (bsum (M.1 0 4) (M.2 1) w) := by
  unfold f_X4_bestNet_1
  rw [m_buse1 k M hw, Option.bind_some, m_net1 k M (buse_in _ _ _) hw]
  rfl
theorem m_net2 (k : Nat) (M : (Nat → Nat → Int32) × (Nat → Nat → Int64)) {u w : Int32} (hu : 0 ≤ u ∧ u < 5) (hw : 0 ≤ w ∧ w < 3) : f_X4_netBy_2 M u w (k + 200) = some (nsum (M.1 0 4) (M.2 2) u w) := by
  simp [f_X4_netBy_2, f_X4_netBy_2_L6, nsum, net_eq M hu hw (s := 0) (by decide), net_eq M hu hw (s := 1) (by decide), net_eq M hu hw (s := 2) (by decide), net_eq M hu hw (s := 3) (by decide), net_eq M hu hw (s := 4) (by decide), Int64.mul_comm]
theorem m_bu2_step (k n : Nat) (M : (Nat → Nat → Int32) × (Nat → Nat → Int64)) {w b u u2 : Int32} (hw : 0 ≤ w ∧ w < 3) (hb : 0 ≤ b ∧ b < 5) (h5 : 0 ≤ u ∧ u < 5) (hu : u + 1 = u2) : f_X4_bestUse_2_L5 w M (k + 200) (n + 1) b u = f_X4_bestUse_2_L5 w M (k + 200) n (stb (fun u => nsum (M.1 0 4) (M.2 2) u w) b u) u2 := by
  subst hu
  rw [f_X4_bestUse_2_L5, if_neg (by grind), m_net2 k M h5 hw, m_net2 k M hb hw]
  simp only [Option.bind_some, lg_cmp_le, stb]
  by_cases h2 : nsum (M.1 0 4) (M.2 2) u w ≤ nsum (M.1 0 4) (M.2 2) b w
  · rw [if_pos h2, if_neg (c := nsum (M.1 0 4) (M.2 2) b w < nsum (M.1 0 4) (M.2 2) u w) (by grind)]
  · rw [if_neg h2, if_pos (c := nsum (M.1 0 4) (M.2 2) b w < nsum (M.1 0 4) (M.2 2) u w) (by grind)]
theorem m_bu2_end (k n : Nat) (M : (Nat → Nat → Int32) × (Nat → Nat → Int64)) (w b : Int32) : f_X4_bestUse_2_L5 w M (k + 200) (n + 1) b 5 = some (b, 5) := by
  rw [f_X4_bestUse_2_L5, if_pos (by decide)]
theorem m_bu24 (k : Nat) (M : (Nat → Nat → Int32) × (Nat → Nat → Int64)) {w : Int32} (hw : 0 ≤ w ∧ w < 3) : f_X4_bestUse_2_L5 w M (k + 200) (k + 200) 0 1 = some (buse (M.1 0 4) (M.2 2) w, 5) :=
  (m_bu2_step k (k + 199) M hw (b := 0) (u := 1) (u2 := 2) (by decide) (by decide) (by decide)).trans ((m_bu2_step k (k + 198) M hw (u := 2) (u2 := 3) (stb_in (by decide) (by decide)) (by decide) (by decide)).trans ((m_bu2_step k (k + 197) M hw (u := 3) (u2 := 4) (stb_in (stb_in (by decide) (by decide)) (by decide)) (by decide) (by decide)).trans ((m_bu2_step k (k + 196) M hw (u := 4) (u2 := 5) (stb_in (stb_in (stb_in (by decide) (by decide)) (by decide)) (by decide)) (by decide) (by decide)).trans (m_bu2_end k (k + 195) M w _))))
theorem m_buse2 (k : Nat) (M : (Nat → Nat → Int32) × (Nat → Nat → Int64)) {w : Int32} (hw : 0 ≤ w ∧ w < 3) : f_X4_bestUse_2 M w (k + 200) = some (buse (M.1 0 4) (M.2 2) w) := by
  unfold f_X4_bestUse_2
  rw [m_bu24 k M hw, Option.bind_some]
theorem m_bsum2 (k : Nat) (M : (Nat → Nat → Int32) × (Nat → Nat → Int64)) {w : Int32} (hw : 0 ≤ w ∧ w < 3) : f_X4_bestNet_2 M w (k + 200) = some (bsum (M.1 0 4) (M.2 2) w) := by
  unfold f_X4_bestNet_2
  rw [m_buse2 k M hw, Option.bind_some, m_net2 k M (buse_in _ _ _) hw]
  rfl
theorem m_lays0 {A : Nat → Nat → Int32} {kd pt cp : Int32} (h : HM A kd pt cp) (k : Nat) (B : Nat → Nat → Int64) {t : Int32} (ht : 0 ≤ t ∧ t < 4) (o : Int32) : f_X4_laysAnswer_0 (A, B) t o (k + 200) = some (A, kLS B 2 (v5 (B 2) (nar (B 0) kd t o))) := by
  have h0 := fun B => m_saysOff h k B ht (s := 0) (by decide)
  have h1 := fun B => m_saysOff h k B ht (s := 1) (by decide)
  have h2 := fun B => m_saysOff h k B ht (s := 2) (by decide)
  have h3 := fun B => m_saysOff h k B ht (s := 3) (by decide)
  have h4 := fun B => m_saysOff h k B ht (s := 4) (by decide)
  rw [← v5_up]
  unfold f_X4_laysAnswer_0 nar tn
  have e : ∀ (B : Nat → Nat → Int64) (r q : Nat → Int64), kLS (kLS B 2 r) 2 q = kLS B 2 q := fun B r q => by
    funext b
    unfold kLS
    split <;> rfl
  have e2 : ∀ (B : Nat → Nat → Int64) (r : Nat → Int64), kLS B 2 r 2 = r := fun B r => rfl
  have e3 : ∀ (B : Nat → Nat → Int64) (r : Nat → Int64), kLS B 2 r 0 = B 0 := fun B r => rfl
  by_cases ho : o = 1 <;> simp [f_X4_laysAnswer_0_L3, h0, h1, h2, h3, h4, ho, e, e2, e3]
theorem m_lays1 {A : Nat → Nat → Int32} {kd pt cp : Int32} (h : HM A kd pt cp) (k : Nat) (B : Nat → Nat → Int64) {t : Int32} (ht : 0 ≤ t ∧ t < 4) (o : Int32) : f_X4_laysAnswer_1 (A, B) t o (k + 200) = some (A, kLS B 2 (v5 (B 2) (nar (B 1) kd t o))) := by
  have h0 := fun B => m_saysOff h k B ht (s := 0) (by decide)
  have h1 := fun B => m_saysOff h k B ht (s := 1) (by decide)
  have h2 := fun B => m_saysOff h k B ht (s := 2) (by decide)
  have h3 := fun B => m_saysOff h k B ht (s := 3) (by decide)
  have h4 := fun B => m_saysOff h k B ht (s := 4) (by decide)
  rw [← v5_up]
  unfold f_X4_laysAnswer_1 nar tn
  have e : ∀ (B : Nat → Nat → Int64) (r q : Nat → Int64), kLS (kLS B 2 r) 2 q = kLS B 2 q := fun B r q => by
    funext b
    unfold kLS
    split <;> rfl
  have e2 : ∀ (B : Nat → Nat → Int64) (r : Nat → Int64), kLS B 2 r 2 = r := fun B r => rfl
  have e3 : ∀ (B : Nat → Nat → Int64) (r : Nat → Int64), kLS B 2 r 1 = B 1 := fun B r => rfl
  by_cases ho : o = 1 <;> simp [f_X4_laysAnswer_1_L3, h0, h1, h2, h3, h4, ho, e, e2, e3]
