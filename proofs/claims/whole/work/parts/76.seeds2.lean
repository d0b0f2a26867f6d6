theorem m_warmG (k : Nat) (A : Nat → Nat → Int32) (B : Nat → Nat → Int64) {j : Nat} (hj : j < 5) : f_X4_warmOf (A, B) (Int32.ofNat j) (k + 200) = some (f_X0_warmPoints (A 2 j) (A 3 j)) := by
  unfold f_X4_warmOf f_X0_warmPoints
  simp only [p_tn (show j < 2147483648 by omega), if_neg (p_nbi hj (by decide))]
  split <;> (try rfl)
  split <;> (try rfl)
  split <;> (try rfl)
  split <;> (try rfl)
  split <;> rfl
theorem m_gainsG (k : Nat) (A : Nat → Nat → Int32) (B : Nat → Nat → Int64) {j : Nat} (hj : j < 5) (v x : Int32) (hx : f_X0_gain (A 5 j) v = x) : f_X4_gains (A, B) (Int32.ofNat j) v (k + 200) = some (kE A 5 j x, B) := by
  unfold f_X4_gains
  simp only [p_tn (show j < 2147483648 by omega), if_neg (p_nbi hj (by decide)), m_gain, hx]
  rfl
theorem m_wk1 (k n : Nat) (kd fg pr w p s2 x1 x u : Int32) (hkd : 0 ≤ kd ∧ kd < 6) (hw : 0 ≤ w ∧ w < 3) (jh i : Nat) (hjh : jh < 5) (hi : i < 7) (A : Nat → Nat → Int32) (B : Nat → Nat → Int64) (e2 : A 2 jh = kd) (e3 : A 3 jh = fg) (e5 : A 5 jh = p) (ep : A 0 4 = pr) (hs : A 0 14 * 1103515245 + 12345 = s2) (hx1 : f_X0_gain p (f_X0_warmPoints kd fg * dr s2) = x1) (hx : f_X0_gain x1 (f_X0_coldPoints kd * (24 - dr s2)) = x) (hxr : 0 ≤ x ∧ x ≤ 240) (hu : ub2 kd fg x pr 4 w = u) :
    ∃ A2 B2, f_X4_goesWeek_L7 w (Int32.ofNat jh) (k + 200) (n + 1) (Int32.ofNat i) (A, B) = (if u = 0 then f_X4_goesWeek_L7 w (Int32.ofNat jh) (k + 200) n (Int32.ofNat i + 1) (A2, B2) else some (Int32.ofNat i, (A2, B2))) ∧ A2 0 14 = s2 ∧ A2 0 12 = u ∧ A2 5 jh = x ∧ (∀ z, z ≠ jh → A2 5 z = A 5 z) ∧ (∀ z, z ≠ 12 → z ≠ 14 → A2 0 z = A 0 z) ∧ ∀ r, r ≠ 0 → r ≠ 5 → A2 r = A r := by
  have hb := p_nbi (i := jh) (n := 5) hjh (by decide)
  have hl : ¬ (7 : Int32) ≤ Int32.ofNat i := fun z => by have := (p_le (a := 7) (by omega) (by omega)).mp z; omega
  have g1 := m_gainsG k (kE A 0 14 s2) B hjh (f_X0_warmPoints kd fg * dr s2) x1 (by
    rw [show kE A 0 14 s2 5 jh = p from e5]
    exact hx1)
  have g2 := m_gainsG k (kE (kE A 0 14 s2) 5 jh x1) B hjh (f_X0_coldPoints kd * (24 - dr s2)) x (by
    rw [kE_at, if_pos ⟨rfl, rfl⟩]
    exact hx)
  obtain ⟨B1, a1⟩ := m_ubr k (kE (kE (kE A 0 14 s2) 5 jh x1) 5 jh x) B hjh (by
    rw [kE_at, if_pos ⟨rfl, rfl⟩]
    exact hxr) 4 hw
  rw [show kE (kE (kE A 0 14 s2) 5 jh x1) 5 jh x 2 jh = kd from e2, show kE (kE (kE A 0 14 s2) 5 jh x1) 5 jh x 3 jh = fg from e3, show kE (kE (kE A 0 14 s2) 5 jh x1) 5 jh x 0 4 = pr from ep, kE_at (kE (kE A 0 14 s2) 5 jh x1) 5 jh x 5 jh, if_pos ⟨rfl, rfl⟩, hu] at a1
  refine ⟨kE (kE (kE (kE A 0 14 s2) 5 jh x1) 5 jh x) 0 12 u, B1, ?_, rfl, rfl, ?_, fun z hz => ?_, fun z hz hz2 => ?_, fun r hr hr2 => ?_⟩
  · rw [f_X4_goesWeek_L7, if_neg hl]
    dsimp only
    rw [hs, p_bs]
    rw [show kS A 0 (upd (A 0) 14 s2) = kE A 0 14 s2 from rfl, m_warmG k _ B hjh, p_bs, show kE A 0 14 s2 2 jh = kd from e2, show kE A 0 14 s2 3 jh = fg from e3]
    rw [show (s2 &&& 2147483647) / 65536 - (s2 &&& 2147483647) / 65536 / 7 * 7 = dr s2 from rfl, g1, p_bs, p_tn (by omega), if_neg hb]
    dsimp only
    rw [show kE (kE A 0 14 s2) 5 jh x1 2 jh = kd from e2, m_cold hkd, g2, p_bs, a1, p_bs]
    rfl
  · rw [kE_at, if_neg (by omega), kE_at, if_pos ⟨rfl, rfl⟩]
  · rw [kE_at, if_neg (by omega), kE_at, if_neg (by omega), kE_at, if_neg (by omega), kE_at, if_neg (by omega)]
  · rw [kE_at, if_neg (by omega), kE_at, if_neg (by omega), kE_at, if_neg (by omega), kE_at, if_neg (by omega)]
  · show (if r = 0 then _ else (if r = 5 then _ else (if r = 5 then _ else (if r = 0 then _ else A r)))) = _
    rw [if_neg hr, if_neg hr2, if_neg hr2, if_neg hr]
theorem m_week (k : Nat) (kd fg pr w : Int32) (hkd : 0 ≤ kd ∧ kd < 6) (hfg : 0 ≤ fg ∧ fg ≤ 9) (hw : 0 ≤ w ∧ w < 3) (jh : Nat) (hjh : jh < 5) : ∀ (m i j : Nat) (s p : Int32) (A : Nat → Nat → Int32) (B : Nat → Nat → Int64), i + m = 7 → (0 ≤ p ∧ p ≤ 240) → A 2 jh = kd → A 3 jh = fg → A 5 jh = p → A 0 4 = pr → A 0 14 = s → (m = 0 → A 0 12 = 0) → ∃ q A2 B2, f_X4_goesWeek_L7 w (Int32.ofNat jh) (k + 200) (m + 1 + j) (Int32.ofNat i) (A, B) = some (q, (A2, B2)) ∧ A2 0 14 = (wkf kd (f_X0_warmPoints kd fg) pr w m s p).1 ∧ A2 0 12 = (wkf kd (f_X0_warmPoints kd fg) pr w m s p).2.1 ∧ A2 5 jh = (wkf kd (f_X0_warmPoints kd fg) pr w m s p).2.2 ∧ (0 ≤ A2 5 jh ∧ A2 5 jh ≤ 240) ∧ (∀ z, z ≠ jh → A2 5 z = A 5 z) ∧ (∀ z, z ≠ 12 → z ≠ 14 → A2 0 z = A 0 z) ∧ ∀ r, r ≠ 0 → r ≠ 5 → A2 r = A r := by
  intro m
  induction m with
  | zero =>
    intro i j s p A B h hp e2 e3 e5 ep es eu
    obtain rfl : i = 7 := by omega
    rw [wkf_0]
    refine ⟨Int32.ofNat 7, A, B, ?_, es, eu rfl, e5, by rw [e5]; exact hp, fun _ _ => rfl, fun _ _ _ => rfl, fun _ _ _ => rfl⟩
    rw [show 0 + 1 + j = j + 1 by omega, f_X4_goesWeek_L7, if_pos (by decide)]
  | succ m ih =>
    intro i j s p A B h hp e2 e3 e5 ep es eu
    have g2 := gain_two hp (warm_in (kd := kd) hfg) (cold_in (kd := kd)) (dr_in (f_X3_nextSeed s))
    have hs : A 0 14 * 1103515245 + 12345 = f_X3_nextSeed s := by rw [es]; rfl
    have hub : ∀ x, ub2 kd fg x pr 4 w = buse pr (wv kd x) w := fun x => by
      unfold ub2
      rw [if_neg (by decide), if_neg (by decide), if_neg (by decide), if_neg (by decide)]
    have hdx : f_X0_gain (f_X0_gain p (f_X0_warmPoints kd fg * dr (f_X3_nextSeed s))) (f_X0_coldPoints kd * (24 - dr (f_X3_nextSeed s))) = dayp kd (f_X0_warmPoints kd fg) (f_X3_nextSeed s) p := g2.1
    obtain ⟨A1, B1, a1, a2, a3, a4, a5, a6, a7⟩ := m_wk1 k (m + 1 + j) kd fg pr w p (f_X3_nextSeed s) _ (dayp kd (f_X0_warmPoints kd fg) (f_X3_nextSeed s) p) _ hkd hw jh i hjh (by omega) A B e2 e3 e5 ep hs rfl hdx g2.2 (hub _)
    have hr : 0 ≤ A1 5 jh ∧ A1 5 jh ≤ 240 := by rw [a4]; exact g2.2
    rw [show m + 1 + 1 + j = (m + 1 + j) + 1 by omega, a1, wkf_s]
    clear a1 g2 hdx hs
    generalize dayp kd (f_X0_warmPoints kd fg) (f_X3_nextSeed s) p = x at *
    generalize f_X3_nextSeed s = s2 at *
    generalize buse pr (wv kd x) w = u at *
    by_cases h9 : u = 0
    · rw [if_pos h9, if_pos h9]
      obtain ⟨q, A2, B2, y1, y2, y3, y4, y5, y6, y7, y8⟩ := ih (i + 1) j s2 x A1 B1 (by omega) (by rw [← a4]; exact hr) (by rw [a7 2 (by decide) (by decide)]; exact e2) (by rw [a7 3 (by decide) (by decide)]; exact e3) a4 (by rw [a6 4 (by decide) (by decide)]; exact ep) a2 (fun _ => by rw [a3]; exact h9)
      rw [p_succ] at y1
      exact ⟨q, A2, B2, y1, y2, y3, y4, y5, fun z hz => (y6 z hz).trans (a5 z hz), fun z hz hz2 => (y7 z hz hz2).trans (a6 z hz hz2), fun r hr1 hr2 => (y8 r hr1 hr2).trans (a7 r hr1 hr2)⟩
    · rw [if_neg h9, if_neg h9]
      exact ⟨_, A1, B1, rfl, a2, a3, a4, hr, a5, a6, a7⟩
theorem wkf_u (kd wm pr w : Int32) : ∀ m s p, 0 ≤ (wkf kd wm pr w m s p).2.1 ∧ (wkf kd wm pr w m s p).2.1 < 5 := by
  intro m
  induction m with
  | zero =>
    intro s p
    rw [wkf_0]
    show (0 : Int32) ≤ 0 ∧ (0 : Int32) < 5
    decide
  | succ m ih =>
    intro s p
    rw [wkf_s]
    split
    · exact ih _ _
    · exact buse_in _ _ _
/-- nets and weeks thrown away, of m weeks more -/
def wks (kd fg cp pr w p : Int32) : Nat → Int32 → Int32 → Int32 → Int32 × Int32
  | 0, _, a, b => (a, b)
  | m + 1, s, a, b => wks kd fg cp pr w p m (wkf kd (f_X0_warmPoints kd fg) pr w 7 s p).1 (a + cp * f_X1_netOf pr (wkf kd (f_X0_warmPoints kd fg) pr w 7 s p).2.1 (f_X0_trueStage (wkf kd (f_X0_warmPoints kd fg) pr w 7 s p).2.2) w) (b + if (wkf kd (f_X0_warmPoints kd fg) pr w 7 s p).2.1 = 4 then 1 else 0)
theorem c_wks (k : Nat) (kd fg cp pr w p : Int32) (n : Nat) (hn : n ≤ 20) : ∀ (m i j : Nat) (s a b : Int32) (S : ST), i + m = n → S.1 34 0 = kd → S.1 34 1 = fg → S.1 34 2 = cp → S.1 34 3 = p → S.1 0 3 = pr → ∃ q q2 S2, f_X3_seeds_L72 w (Int32.ofNat n) (k + 200) (m + 1 + j) s a b (Int32.ofNat i) S = some (q, (wks kd fg cp pr w p m s a b).1, (wks kd fg cp pr w p m s a b).2, q2, S2) ∧ ∀ r, r ≠ 35 → S2.1 r = S.1 r := by
  intro m
  induction m with
  | zero =>
    intro i j s a b S h e0 e1 e2 e3 ep
    obtain rfl : i = n := by omega
    refine ⟨s, Int32.ofNat i, S, ?_, fun _ _ => rfl⟩
    rw [show 0 + 1 + j = j + 1 by omega, f_X3_seeds_L72, if_pos (by grind)]
    rfl
  | succ m ih =>
    intro i j s a b S h e0 e1 e2 e3 ep
    have hl : ¬ Int32.ofNat n ≤ Int32.ofNat i := fun z => by have := (p_le (by omega) (by omega)).mp z; omega
    rw [show m + 1 + 1 + j = (m + 1 + j) + 1 by omega, f_X3_seeds_L72, if_neg hl]
    generalize hS : ((kS S.1 35 _, S.2) : ST) = S1
    have q1 : ∀ r, r ≠ 35 → S1.1 r = S.1 r := fun r hr => by
      subst hS
      show (if r = 35 then _ else _) = _
      rw [if_neg hr]
    have q2 : S1.1 35 0 = kd ∧ S1.1 35 1 = fg ∧ S1.1 35 2 = cp ∧ S1.1 35 3 = p := by
      subst hS
      exact ⟨e0, e1, e2, e3⟩
    clear hS
    obtain ⟨q, S2, g1, g2, g3, g4⟩ := c_week k kd fg pr w 7 0 (k + 191) s p S1 (by decide) q2.1 q2.2.1 q2.2.2.2 (by rw [q1 0 (by decide)]; exact ep)
    rw [show 7 + 1 + (k + 191 + 1) = k + 200 by omega] at g1
    have g1' : f_X3_seeds_L95 w (k + 200) (k + 200) s 0 0 S1 = _ := g1
    have hfr : ∀ r, r ≠ 35 → S2.1 r = S.1 r := fun r hr => (g4 r hr).trans (q1 r hr)
    rw [g1', p_bs, wks]
    dsimp only
    have hnet : f_X3_trueNet_m S2 (wkf kd (f_X0_warmPoints kd fg) pr w 7 s p).2.1 w = cp * f_X1_netOf pr (wkf kd (f_X0_warmPoints kd fg) pr w 7 s p).2.1 (f_X0_trueStage (wkf kd (f_X0_warmPoints kd fg) pr w 7 s p).2.2) w := by
      unfold f_X3_trueNet_m
      rw [g2, g3, q2.2.2.1, hfr 0 (by decide), ep]
    rw [hnet]
    generalize wkf kd (f_X0_warmPoints kd fg) pr w 7 s p = W
    generalize a + cp * f_X1_netOf pr W.2.1 (f_X0_trueStage W.2.2) w = a2
    have fin : ∀ b2, ∃ q q2 S3, f_X3_seeds_L72 w (Int32.ofNat n) (k + 200) (m + 1 + j) W.1 a2 b2 (Int32.ofNat i + 1) S2 = some (q, (wks kd fg cp pr w p m W.1 a2 b2).1, (wks kd fg cp pr w p m W.1 a2 b2).2, q2, S3) ∧ ∀ r, r ≠ 35 → S3.1 r = S.1 r := fun b2 => by
      obtain ⟨q3, q4, S3, y1, y2⟩ := ih (i + 1) j W.1 a2 b2 S2 (by omega) (by rw [hfr 34 (by decide)]; exact e0) (by rw [hfr 34 (by decide)]; exact e1) (by rw [hfr 34 (by decide)]; exact e2) (by rw [hfr 34 (by decide)]; exact e3) (by rw [hfr 0 (by decide)]; exact ep)
      rw [p_succ] at y1
      exact ⟨q3, q4, S3, y1, fun r hr => (y2 r hr).trans (hfr r hr)⟩
    by_cases h4 : W.2.1 = 4
    · rw [if_pos h4, if_pos h4]
      exact fin _
    · rw [if_neg h4, if_neg h4]
      exact fin _
theorem m_wks (k : Nat) (kd fg cp pr w p : Int32) (hkd : 0 ≤ kd ∧ kd < 6) (hfg : 0 ≤ fg ∧ fg ≤ 9) (hp : 0 ≤ p ∧ p ≤ 240) (hw : 0 ≤ w ∧ w < 3) (jh : Nat) (hjh : jh < 5) (n : Nat) (hn : n ≤ 20) : ∀ (m i j : Nat) (s a b : Int32) (A : Nat → Nat → Int32) (B : Nat → Nat → Int64), i + m = n → A 0 1 = Int32.ofNat jh → A 2 jh = kd → A 3 jh = fg → A 4 jh = cp → A 0 4 = pr → A 0 14 = s → ∃ q A2 B2, f_X4_seeds_L77 w (Int32.ofNat n) p (k + 200) (m + 1 + j) a b (Int32.ofNat i) (A, B) = some ((wks kd fg cp pr w p m s a b).1, (wks kd fg cp pr w p m s a b).2, q, (A2, B2)) ∧ (∀ z, z ≠ jh → A2 5 z = A 5 z) ∧ (∀ z, z < 12 → A2 0 z = A 0 z) ∧ ∀ r, r ≠ 0 → r ≠ 5 → A2 r = A r := by
  intro m
  induction m with
  | zero =>
    intro i j s a b A B h eh e2 e3 e4 ep es
    obtain rfl : i = n := by omega
    refine ⟨Int32.ofNat i, A, B, ?_, fun _ _ => rfl, fun _ _ => rfl, fun _ _ _ => rfl⟩
    rw [show 0 + 1 + j = j + 1 by omega, f_X4_seeds_L77, if_pos (by grind)]
    rfl
  | succ m ih =>
    intro i j s a b A B h eh e2 e3 e4 ep es
    have hl : ¬ Int32.ofNat n ≤ Int32.ofNat i := fun z => by have := (p_le (by omega) (by omega)).mp z; omega
    have hb := p_nbi (i := jh) (n := 5) hjh (by decide)
    obtain ⟨q, A2, B2, y1, y2, y3, y4, y5, y6, y7, y8⟩ := m_week k kd fg pr w hkd hfg hw jh hjh 7 0 (k + 192) s p (kE A 5 jh p) B (by decide) hp e2 e3 (by rw [kE_at, if_pos ⟨rfl, rfl⟩]) ep es (fun z => absurd z (by decide))
    rw [show 7 + 1 + (k + 192) = k + 200 by omega] at y1
    have y1' : f_X4_goesWeek_L7 w (Int32.ofNat jh) (k + 200) (k + 200) 0 (kE A 5 jh p, B) = _ := y1
    have hA0 : ∀ z, z ≠ 12 → z ≠ 14 → A2 0 z = A 0 z := y7
    have hAr : ∀ r, r ≠ 0 → r ≠ 5 → A2 r = A r := fun r hr hr2 => (y8 r hr hr2).trans (by
      show (if r = 5 then _ else A r) = _
      rw [if_neg hr2])
    have hA5 : ∀ z, z ≠ jh → A2 5 z = A 5 z := fun z hz => (y6 z hz).trans (by rw [kE_at, if_neg (by omega)])
    have hu := wkf_u kd (f_X0_warmPoints kd fg) pr w 7 s p
    have gw : f_X4_goesWeek (kE A 5 jh p, B) w (k + 200) = some (kE A2 0 13 (cp * f_X1_netOf pr (wkf kd (f_X0_warmPoints kd fg) pr w 7 s p).2.1 (f_X0_trueStage (wkf kd (f_X0_warmPoints kd fg) pr w 7 s p).2.2) w), B2) := by
      unfold f_X4_goesWeek
      rw [show ((kE A 5 jh p, B) : ST).1 0 1 = Int32.ofNat jh from eh, y1', p_bs]
      dsimp only
      rw [m_truly k A2 B2 hjh, p_bs, p_tn (by omega), if_neg hb, net_eq (A2, B2) (by rw [y3]; exact hu) hw (st_in y5)]
      dsimp only
      rw [hA0 4 (by decide) (by decide), ep, y3, y4, hAr 4 (by decide) (by decide), e4, Int32.mul_comm]
      rfl
    rw [show m + 1 + 1 + j = (m + 1 + j) + 1 by omega, f_X4_seeds_L77, if_neg hl, wks]
    dsimp only
    rw [if_neg (show ¬ (A 0 1 < 0 ∨ 5 ≤ Int32.toNatClampNeg (A 0 1)) by rw [eh, p_tn (by omega)]; exact hb), eh, p_tn (by omega), show kS A 5 (upd (A 5) jh p) = kE A 5 jh p from rfl, gw, p_bs]
    dsimp only
    have h12 : kE A2 0 13 (cp * f_X1_netOf pr (wkf kd (f_X0_warmPoints kd fg) pr w 7 s p).2.1 (f_X0_trueStage (wkf kd (f_X0_warmPoints kd fg) pr w 7 s p).2.2) w) 0 12 = (wkf kd (f_X0_warmPoints kd fg) pr w 7 s p).2.1 := by rw [kE_at, if_neg (by decide)]; exact y3
    have h13 : kE A2 0 13 (cp * f_X1_netOf pr (wkf kd (f_X0_warmPoints kd fg) pr w 7 s p).2.1 (f_X0_trueStage (wkf kd (f_X0_warmPoints kd fg) pr w 7 s p).2.2) w) 0 13 = cp * f_X1_netOf pr (wkf kd (f_X0_warmPoints kd fg) pr w 7 s p).2.1 (f_X0_trueStage (wkf kd (f_X0_warmPoints kd fg) pr w 7 s p).2.2) w := by rw [kE_at, if_pos ⟨rfl, rfl⟩]
    simp only [h12, h13]
    clear gw h12 h13
    generalize wkf kd (f_X0_warmPoints kd fg) pr w 7 s p = W at *
    generalize cp * f_X1_netOf pr W.2.1 (f_X0_trueStage W.2.2) w = a2
    have fin : ∀ b2, ∃ q A3 B3, f_X4_seeds_L77 w (Int32.ofNat n) p (k + 200) (m + 1 + j) (a + a2) b2 (Int32.ofNat i + 1) (kE A2 0 13 a2, B2) = some ((wks kd fg cp pr w p m W.1 (a + a2) b2).1, (wks kd fg cp pr w p m W.1 (a + a2) b2).2, q, (A3, B3)) ∧ (∀ z, z ≠ jh → A3 5 z = A 5 z) ∧ (∀ z, z < 12 → A3 0 z = A 0 z) ∧ ∀ r, r ≠ 0 → r ≠ 5 → A3 r = A r := fun b2 => by
      obtain ⟨q3, A3, B3, z1, z2, z3, z4⟩ := ih (i + 1) j W.1 (a + a2) b2 (kE A2 0 13 a2) B2 (by omega) (by rw [kE_at, if_neg (by decide), hA0 1 (by decide) (by decide)]; exact eh) (by rw [kE_at, if_neg (by omega), hAr 2 (by decide) (by decide)]; exact e2) (by rw [kE_at, if_neg (by omega), hAr 3 (by decide) (by decide)]; exact e3) (by rw [kE_at, if_neg (by omega), hAr 4 (by decide) (by decide)]; exact e4) (by rw [kE_at, if_neg (by decide), hA0 4 (by decide) (by decide)]; exact ep) (by rw [kE_at, if_neg (by decide)]; exact y2)
      rw [p_succ] at z1
      refine ⟨q3, A3, B3, z1, fun z hz => ?_, fun z hz => ?_, fun r hr hr2 => ?_⟩
      · rw [z2 z hz, kE_at, if_neg (by omega), hA5 z hz]
      · rw [z3 z hz, kE_at, if_neg (by omega), hA0 z (by omega) (by omega)]
      · rw [z4 r hr hr2]
        show (if r = 0 then _ else A2 r) = _
        rw [if_neg hr, hAr r hr hr2]
    by_cases h4 : W.2.1 = 4
    · rw [if_pos h4, if_pos h4]
      exact fin _
    · rw [if_neg h4, if_neg h4]
      exact fin _
