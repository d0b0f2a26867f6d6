theorem hd_X1_jugAt : yX1_jugAt.cls = RX1 ∧ yX1_jugAt.cls ≠ "java/lang/invoke/MethodHandle" ∧ yX1_jugAt.cls ≠ "java/lang/invoke/VarHandle" ∧ (parseMethodDescriptor yX1_jugAt.desc).map (fun d => d.parameters.length) = some 1 := by decide +kernel
def f_X1_jugAt (jc : Int32) (y : Nat → Nat) (p0 : Int32) : Option Nat :=
  if (b2i (f_X3_isOneOf p0 jc)) = 0 then
    none
  else
    if 5 ≤ p0 then
      none
    else
      (some (y (Int32.toNatClampNeg p0)))
set_option maxRecDepth 100000 in
set_option maxHeartbeats 4000000 in
theorem k_X1_jugAt (l : Launch) (g : gE) (h0 : Nat) (a1 : Nat) (a2 : Nat) (a3 : Nat) (a4 : Nat) (a5 : Nat) (jc : Int32) (hd : Int32) (sc : Int32) (pr : Int32) (pc : Int32) (y : Nat → Nat) (p0 : Int32) : FnQ l g yX1_jugAt wA_X1_jugAt { frames := 1, cells := 0, slots := 0, locals := 21 } [.ref h0, .int p0] ([(h0, .inr (1, [.ref a1, .int jc, .int hd, .ref a2, .ref a3, .int sc, .ref a4, .int pr, .ref a5, .int pc])), (a1, .inl (g.2.1 2, 5, .inr (.inr (.inr (.inr (fun i => some (y i)))))))]) (f_X1_jugAt jc y p0) ([(h0, .inr (1, [.ref a1, .int jc, .int hd, .ref a2, .ref a3, .int sc, .ref a4, .int pr, .ref a5, .int pc])), (a1, .inl (g.2.1 2, 5, .inr (.inr (.inr (.inr (fun i => some (y i)))))))]) := by
  generalize hR : f_X1_jugAt jc y p0 = R_
  refine fEntry (As := [.ref h0, .int p0]) (maxL := 2) (ret := (some (.object "StillGood$Jug"))) (by decide) rfl [some (.ref h0), some (.int p0)] (Nat.le_of_ble_eq_true rfl) (lvInB.to (lvInB.sm (lvInB.sm lvInB.nil))) ?_
  intro p e s m below meth c A C hr hlocks hname hA
  have C : Cx p s m _ c g A cX1_jugAt 2 wA_X1_jugAt RX1 := C
  rw [f_X1_jugAt] at hR
  refine g_iload_n C dX1_jugAt_0 rfl 1 rfl ?_
  refine g_aload_n C dX1_jugAt_1 rfl 2 rfl ?_
  refine g_get (v := .int jc) C (hiC hiA_1) 0 rfl rfl 1 (by decide) (List.mem_cons_of_mem _ wl_41) rfl rfl dX1_jugAt_2 5 rfl ?_
  refine g_callIR C (rn_SN C (k_X3_isOneOf l g p0 jc) ⟨va_cnB 2 C.1.2.2.2.2 (gdA wl_95) rfl rfl rfl (nst C (List.mem_of_getElem? (i := 39) rfl)) (C.1.2.2.2.2 _ (List.mem_cons_of_mem _ wl_2)) hd_X3_isOneOf.2 ⟨Nat.le_of_ble_eq_true rfl, Nat.le_of_ble_eq_true rfl⟩, C.1.2.2.2.2 _ (List.mem_cons_of_mem _ wl_94), trivial⟩ [] rfl rfl rfl rfl (Nat.le_of_ble_eq_true rfl) ⟨Nat.zero_le _, Nat.zero_le _⟩ dX1_jugAt_5) 8 rfl ?_
  refine g_if_eq C dX1_jugAt_8 hR 29 11 (by decide) rfl (fun c_8 hR => ?_) (fun c_8 hR => ?_)
  · refine g_null C dX1_jugAt_29 30 rfl ?_
    subst hR
    exact g_aret C hr (Or.inl ⟨_, rfl⟩) hlocks hA rfl rfl dX1_jugAt_30
  · refine g_iload_n C dX1_jugAt_11 rfl 12 rfl ?_
    refine g_aload_n C dX1_jugAt_12 rfl 13 rfl ?_
    refine g_get (v := .ref a1) C (hiC hiA_1) 0 rfl rfl 0 (by decide) (List.mem_cons_of_mem _ wl_40) rfl rfl dX1_jugAt_13 16 rfl ?_
    refine g_alen C 1 2 rfl rfl 5 (show Int32.ofNat 5 = 5 by decide) dX1_jugAt_16 17 rfl ?_
    refine g_icmp_ge C dX1_jugAt_17 hR 29 20 (by decide) rfl (fun c_17 hR => ?_) (fun c_17 hR => ?_)
    · refine g_null C dX1_jugAt_29 30 rfl ?_
      subst hR
      exact g_aret C hr (Or.inl ⟨_, rfl⟩) hlocks hA rfl rfl dX1_jugAt_30
    · refine g_aload_n C dX1_jugAt_20 rfl 21 rfl ?_
      refine g_get (v := .ref a1) C (hiC hiA_1) 0 rfl rfl 0 (by decide) (List.mem_cons_of_mem _ wl_40) rfl rfl dX1_jugAt_21 24 rfl ?_
      refine g_iload_n C dX1_jugAt_24 rfl 25 rfl ?_
      refine g_aald C 1 rfl (jug_in c_8 c_17) (.ref (y (Int32.toNatClampNeg p0))) rfl dX1_jugAt_25 26 rfl ?_
      have hj_25 : (Int32.toNatClampNeg p0) < 5 := vpin_lt (n := 5) (jug_in c_8 c_17)
      refine g_goto C dX1_jugAt_26 30 (by decide) ?_
      subst hR
      exact g_aret C hr (Or.inl ⟨_, rfl⟩) hlocks hA rfl rfl dX1_jugAt_30
abbrev jIn (jc p0 : Int32) : Prop := ¬ p0 < 0 ∧ ¬ jc ≤ p0 ∧ p0 < 5
theorem jIn_lt {jc p0 : Int32} (h : jIn jc p0) : Int32.toNatClampNeg p0 < 5 := by
  have h1 := (not_congr (Int32.lt_iff_toInt_lt (x := p0) (y := 0))).mp h.1
  have h2 := (Int32.lt_iff_toInt_lt (x := p0) (y := 5)).mp h.2.2
  have e0 : (0 : Int32).toInt = 0 := rfl
  have e5 : (5 : Int32).toInt = 5 := rfl
  show p0.toInt.toNat < 5
  omega
theorem f_X1_jugAt_eq (jc : Int32) (y : Nat → Nat) (p0 : Int32) : f_X1_jugAt jc y p0 = if jIn jc p0 then some (y (Int32.toNatClampNeg p0)) else none := by
  unfold f_X1_jugAt f_X3_isOneOf
  by_cases h0 : p0 < 0
  · simp [h0, b2i]
  · by_cases h1 : jc ≤ p0
    · simp [h0, h1, b2i]
    · by_cases h2 : p0 < 5
      · have h3 : ¬ (5 : Int32) ≤ p0 := by
          rw [Int32.le_iff_toInt_le]
          rw [Int32.lt_iff_toInt_lt] at h2
          omega
        simp [h0, h1, h2, h3, b2i]
      · have h3 : (5 : Int32) ≤ p0 := by
          rw [Int32.le_iff_toInt_le]
          rw [Int32.lt_iff_toInt_lt] at h2
          omega
        simp [h0, h1, h2, h3, b2i]

theorem k_X1_jugAtq (l : Launch) (g : gE) (h0 : Nat) (a1 : Nat) (a2 : Nat) (a3 : Nat) (a4 : Nat) (a5 : Nat) (jc : Int32) (hd : Int32) (sc : Int32) (pr : Int32) (pc : Int32) (y : Nat → Nat) (p0 : Int32) : FnQ l g yX1_jugAt wA_X1_jugAt { frames := 1, cells := 0, slots := 0, locals := 21 } [.ref h0, .int p0] ([(h0, .inr (1, [.ref a1, .int jc, .int hd, .ref a2, .ref a3, .int sc, .ref a4, .int pr, .ref a5, .int pc])), (a1, .inl (g.2.1 2, 5, .inr (.inr (.inr (.inr (fun i => some (y i)))))))]) (if jIn jc p0 then some (y (Int32.toNatClampNeg p0)) else none) ([(h0, .inr (1, [.ref a1, .int jc, .int hd, .ref a2, .ref a3, .int sc, .ref a4, .int pr, .ref a5, .int pc])), (a1, .inl (g.2.1 2, 5, .inr (.inr (.inr (.inr (fun i => some (y i)))))))]) := by
  have h := k_X1_jugAt l g h0 a1 a2 a3 a4 a5 jc hd sc pr pc y p0
  rw [f_X1_jugAt_eq] at h
  exact h
theorem hd_X1_inHand : yX1_inHand.cls = RX1 ∧ yX1_inHand.cls ≠ "java/lang/invoke/MethodHandle" ∧ yX1_inHand.cls ≠ "java/lang/invoke/VarHandle" ∧ (parseMethodDescriptor yX1_inHand.desc).map (fun d => d.parameters.length) = some 0 := by decide +kernel
def f_X1_inHand (jc : Int32) (hd : Int32) (y : Nat → Nat) : Option Nat :=
  if jIn jc hd then
    (some (y (Int32.toNatClampNeg hd)))
  else
    none
set_option maxRecDepth 100000 in
set_option maxHeartbeats 4000000 in
theorem k_X1_inHand (l : Launch) (g : gE) (h0 : Nat) (a1 : Nat) (a2 : Nat) (a3 : Nat) (a4 : Nat) (a5 : Nat) (jc : Int32) (hd : Int32) (sc : Int32) (pr : Int32) (pc : Int32) (y : Nat → Nat) : FnQ l g yX1_inHand wA_X1_inHand { frames := 2, cells := 0, slots := 0, locals := 42 } [.ref h0] ([(h0, .inr (1, [.ref a1, .int jc, .int hd, .ref a2, .ref a3, .int sc, .ref a4, .int pr, .ref a5, .int pc])), (a1, .inl (g.2.1 2, 5, .inr (.inr (.inr (.inr (fun i => some (y i)))))))]) (f_X1_inHand jc hd y) ([(h0, .inr (1, [.ref a1, .int jc, .int hd, .ref a2, .ref a3, .int sc, .ref a4, .int pr, .ref a5, .int pc])), (a1, .inl (g.2.1 2, 5, .inr (.inr (.inr (.inr (fun i => some (y i)))))))]) := by
  generalize hR : f_X1_inHand jc hd y = R_
  refine fEntry (As := [.ref h0]) (maxL := 1) (ret := (some (.object "StillGood$Jug"))) (by decide) rfl [some (.ref h0)] (Nat.le_of_ble_eq_true rfl) (lvInB.to (lvInB.sm lvInB.nil)) ?_
  intro p e s m below meth c A C hr hlocks hname hA
  have C : Cx p s m _ c g A cX1_inHand 1 wA_X1_inHand RX1 := C
  rw [f_X1_inHand] at hR
  refine g_aload_n C dX1_inHand_0 rfl 1 rfl ?_
  refine g_aload_n C dX1_inHand_1 rfl 2 rfl ?_
  refine g_get (v := .int hd) C (hiC hiA_1) 0 rfl rfl 2 (by decide) (List.mem_cons_of_mem _ wl_42) rfl rfl dX1_inHand_2 5 rfl ?_
  refine g_callQR C (rn_V C (k_X1_jugAtq l g h0 a1 a2 a3 a4 a5 jc hd sc pr pc y hd) (cwV 1 C.1.2.2.2.2 (gdV wl_143 wl_140 wl_141 wl_142 wl_14) rfl rfl rfl hd_X1_jugAt ⟨Nat.le_of_ble_eq_true rfl, Nat.le_of_ble_eq_true rfl⟩) 0 rfl rfl [0, 1] rfl rfl rfl rfl (Nat.le_of_ble_eq_true rfl) ⟨Nat.zero_le _, Nat.zero_le _⟩ dX1_inHand_5) hR 8 rfl (fun c_5 hR => ?_) (fun c_5 hR => ?_)
  · have hj_5 : (Int32.toNatClampNeg hd) < 5 := jIn_lt c_5
    subst hR
    exact g_aret C hr (Or.inl ⟨_, rfl⟩) hlocks hA rfl rfl dX1_inHand_8
  · subst hR
    exact g_aret C hr (Or.inl ⟨_, rfl⟩) hlocks hA rfl rfl dX1_inHand_8
theorem k_X1_inHandq (l : Launch) (g : gE) (h0 : Nat) (a1 : Nat) (a2 : Nat) (a3 : Nat) (a4 : Nat) (a5 : Nat) (jc : Int32) (hd : Int32) (sc : Int32) (pr : Int32) (pc : Int32) (y : Nat → Nat) : FnQ l g yX1_inHand wA_X1_inHand { frames := 2, cells := 0, slots := 0, locals := 42 } [.ref h0] ([(h0, .inr (1, [.ref a1, .int jc, .int hd, .ref a2, .ref a3, .int sc, .ref a4, .int pr, .ref a5, .int pc])), (a1, .inl (g.2.1 2, 5, .inr (.inr (.inr (.inr (fun i => some (y i)))))))]) (if jIn jc hd then some (y (Int32.toNatClampNeg hd)) else none) ([(h0, .inr (1, [.ref a1, .int jc, .int hd, .ref a2, .ref a3, .int sc, .ref a4, .int pr, .ref a5, .int pc])), (a1, .inl (g.2.1 2, 5, .inr (.inr (.inr (.inr (fun i => some (y i)))))))]) := k_X1_inHand l g h0 a1 a2 a3 a4 a5 jc hd sc pr pc y
theorem hd_X1_copyRow : yX1_copyRow.cls = RX1 ∧ yX1_copyRow.cls ≠ "java/lang/invoke/MethodHandle" ∧ yX1_copyRow.cls ≠ "java/lang/invoke/VarHandle" ∧ (parseMethodDescriptor yX1_copyRow.desc).map (fun d => d.parameters.length) = some 2 := by decide +kernel
def f_X1_copyRow_L2 (N : Nat) (F : Nat → Int32) (N_ : Nat) : Nat → Int32 → (Nat → Int32) → Option (Int32 × (Nat → Int32))
  | 0, _, _ => none
  | n_ + 1, x2, F1 =>
    if (Int32.ofNat N) ≤ x2 then
      some (x2, F1)
    else
      if x2 < 0 ∨ N ≤ (Int32.toNatClampNeg x2) then none else
      if x2 < 0 ∨ N ≤ (Int32.toNatClampNeg x2) then none else
      f_X1_copyRow_L2 N F N_ n_ (x2 + 1) (upd F1 (Int32.toNatClampNeg x2) (F (Int32.toNatClampNeg x2)))
set_option maxRecDepth 100000 in
set_option maxHeartbeats 4000000 in
theorem k_X1_copyRow_L2 (l : Launch) (g : gE) {p : Program} {e : Env} {s : State} {m : MethodId} {args : Array Value} {below : List Frame} {meth : Method} {c : Code} {Q : State → Prop} {A : Nat → Prop} {h0 : Nat} {h1 : Nat} {N : Nat} (C : Cx p s m args c g A cX1_copyRow 3 wA_X1_copyRow RX1) (N_ : Nat) (F : Nat → Int32) : ∀ (n_ : Nat) (x2 : Int32) (F1 : Nat → Int32) (rv_ : Int32 × (Nat → Int32)), f_X1_copyRow_L2 N F N_ n_ x2 F1 = some rv_ → (Gm p l e (headSpec wA_X1_copyRow ({ frames := 0, cells := 0, slots := 0, locals := 0 } : Room)).room s m args below meth c Q g A 3 0 0 ([(h0, .inl (g.2.1 0, N, .inl F)), (h1, .inl (g.2.1 0, N, .inl rv_.2))]) [some (.ref h0), some (.ref h1), some (.int rv_.1)] [] 26) → Gm p l e (headSpec wA_X1_copyRow ({ frames := 0, cells := 0, slots := 0, locals := 0 } : Room)).room s m args below meth c Q g A 3 0 0 ([(h0, .inl (g.2.1 0, N, .inl F)), (h1, .inl (g.2.1 0, N, .inl F1))]) [some (.ref h0), some (.ref h1), some (.int x2)] [] 2 := by
  intro n_
  induction n_ with
  | zero =>
    intro x2 F1 rv_ hR
    simp [f_X1_copyRow_L2] at hR
  | succ n_ ih =>
    intro x2 F1 rv_ hR hk
    rw [f_X1_copyRow_L2] at hR
    refine g_iload_n C dX1_copyRow_2 rfl 3 rfl ?_
    refine g_aload_n C dX1_copyRow_3 rfl 4 rfl ?_
    refine g_alen C 0 0 rfl rfl (Int32.ofNat N) rfl dX1_copyRow_4 5 rfl ?_
    refine g_icmp_ge C dX1_copyRow_5 hR 26 8 (by decide) rfl (fun c_5 hR => ?_) (fun c_5 hR => ?_)
    · obtain rfl := Option.some.inj hR
      refine g_lv [some (.ref h0), some (.ref h1), some (.int x2)] (lvLe.sm (lvLe.sm (lvLe.sm lvLe.nil))) ?_
      exact hk
    · refine g_iload_n C dX1_copyRow_8 rfl 9 rfl ?_
      refine g_aload_n C dX1_copyRow_9 rfl 10 rfl ?_
      refine g_alen C 1 0 rfl rfl (Int32.ofNat N) rfl dX1_copyRow_10 11 rfl ?_
      refine g_icmp_geF C dX1_copyRow_11 c_5 26 14 (by decide) rfl ?_
      refine g_aload_n C dX1_copyRow_14 rfl 15 rfl ?_
      refine g_iload_n C dX1_copyRow_15 rfl 16 rfl ?_
      refine g_aload_n C dX1_copyRow_16 rfl 17 rfl ?_
      refine g_iload_n C dX1_copyRow_17 rfl 18 rfl ?_
      obtain ⟨h_18, hR⟩ := opt_n hR
      refine g_iald (f := F) C 0 rfl h_18 dX1_copyRow_18 19 rfl ?_
      obtain ⟨h_19, hR⟩ := opt_n hR
      refine g_iast (f := F1) C 1 rfl h_19 dX1_copyRow_19 ([(h0, .inl (g.2.1 0, N, .inl F)), (h1, .inl (g.2.1 0, N, .inl (upd F1 (Int32.toNatClampNeg x2) (F (Int32.toNatClampNeg x2)))))]) rfl 20 rfl ?_
      refine g_iinc C dX1_copyRow_20 rfl 1 ic_1 [_, _, _] (Nat.le_of_ble_eq_true rfl) rfl rfl 23 rfl ?_
      refine g_goto C dX1_copyRow_23 2 (by decide) ?_
      refine g_lv [some (.ref h0), some (.ref h1), some (.int (x2 + 1))] (lvLe.sm (lvLe.sm (lvLe.sm lvLe.nil))) ?_
      exact ih _ _ rv_ hR hk
def f_X1_copyRow (F : Nat → Int32) (F1 : Nat → Int32) (N : Nat) (N_ : Nat) : Option ((Nat → Int32)) :=
  (f_X1_copyRow_L2 N F N_ N_ 0 F1).bind fun v1 =>
  some v1.2
set_option maxRecDepth 100000 in
set_option maxHeartbeats 4000000 in
theorem k_X1_copyRow (l : Launch) (g : gE) (h0 : Nat) (h1 : Nat) (F : Nat → Int32) (F1 : Nat → Int32) (N : Nat) (N_ : Nat) (R_ : (Nat → Int32)) (hR : f_X1_copyRow F F1 N N_ = some R_) : FnV l g yX1_copyRow wA_X1_copyRow { frames := 0, cells := 0, slots := 0, locals := 0 } [.ref h0, .ref h1] ([(h0, .inl (g.2.1 0, N, .inl F)), (h1, .inl (g.2.1 0, N, .inl F1))])  ([(h0, .inl (g.2.1 0, N, .inl F)), (h1, .inl (g.2.1 0, N, .inl R_))]) := by
  refine fEntry (As := [.ref h0, .ref h1]) (maxL := 3) (ret := none) (by decide) rfl [some (.ref h0), some (.ref h1), none] (Nat.le_of_ble_eq_true rfl) (lvInB.to (lvInB.sm (lvInB.sm (lvInB.nn lvInB.nil)))) ?_
  intro p e s m below meth c A C hr hlocks hname hA
  have C : Cx p s m _ c g A cX1_copyRow 3 wA_X1_copyRow RX1 := C
  rw [f_X1_copyRow] at hR
  refine g_iconst C dX1_copyRow_0 0 ic_0 1 rfl ?_
  refine g_istore_n C dX1_copyRow_1 [_, _, _] (Nat.le_of_ble_eq_true rfl) rfl rfl 2 rfl ?_
  refine g_lv [some (.ref h0), some (.ref h1), some (.int 0)] (lvLe.sm (lvLe.sm (lvLe.sm lvLe.nil))) ?_
  obtain ⟨v1, hv1, hR⟩ := opt_b hR
  refine k_X1_copyRow_L2 l g C N_ F N_ 0 F1 _ hv1 ?_
  obtain rfl := Option.some.inj hR
  exact g_vret C hr hlocks hA (by first | (dsimp only; done) | rfl) dX1_copyRow_26
theorem hd_X1_costOf : yX1_costOf.cls = RX1 ∧ yX1_costOf.cls ≠ "java/lang/invoke/MethodHandle" ∧ yX1_costOf.cls ≠ "java/lang/invoke/VarHandle" ∧ (parseMethodDescriptor yX1_costOf.desc).map (fun d => d.parameters.length) = some 1 := by decide +kernel
def f_X1_costOf (F : Nat → Int32) (p0 : Int32) : Int32 :=
  (f_X3_at F 4 p0)
set_option maxRecDepth 100000 in
set_option maxHeartbeats 4000000 in
theorem k_X1_costOf (l : Launch) (g : gE) (h0 : Nat) (a1 : Nat) (a2 : Nat) (a3 : Nat) (a4 : Nat) (a5 : Nat) (jc : Int32) (hd : Int32) (sc : Int32) (pr : Int32) (pc : Int32) (F : Nat → Int32) (p0 : Int32) : FnI l g yX1_costOf wA_X1_costOf { frames := 1, cells := 0, slots := 0, locals := 21 } [.ref h0, .int p0] ([(h0, .inr (1, [.ref a1, .int jc, .int hd, .ref a2, .ref a3, .int sc, .ref a4, .int pr, .ref a5, .int pc])), (a4, .inl (g.2.1 0, 4, .inl F))]) (f_X1_costOf F p0) ([(h0, .inr (1, [.ref a1, .int jc, .int hd, .ref a2, .ref a3, .int sc, .ref a4, .int pr, .ref a5, .int pc])), (a4, .inl (g.2.1 0, 4, .inl F))]) := by
  generalize hR : f_X1_costOf F p0 = R_
  refine fEntry (As := [.ref h0, .int p0]) (maxL := 2) (ret := (some .int)) (by decide) rfl [some (.ref h0), some (.int p0)] (Nat.le_of_ble_eq_true rfl) (lvInB.to (lvInB.sm (lvInB.sm lvInB.nil))) ?_
  intro p e s m below meth c A C hr hlocks hname hA
  have C : Cx p s m _ c g A cX1_costOf 2 wA_X1_costOf RX1 := C
  rw [f_X1_costOf] at hR
  refine g_aload_n C dX1_costOf_0 rfl 1 rfl ?_
  refine g_get (v := .ref a4) C (hiC hiA_1) 0 rfl rfl 6 (by decide) (List.mem_cons_of_mem _ wl_46) rfl rfl dX1_costOf_1 4 rfl ?_
  refine g_iload_n C dX1_costOf_4 rfl 5 rfl ?_
  refine g_callIR C (rn_SN C (k_X3_at l g a4 F 4 p0 (by decide)) ⟨va_cnB 2 C.1.2.2.2.2 (gdA wl_130) rfl rfl rfl (nst C (List.mem_of_getElem? (i := 44) rfl)) (C.1.2.2.2.2 _ (List.mem_cons_of_mem _ wl_2)) hd_X3_at.2 ⟨Nat.le_of_ble_eq_true rfl, Nat.le_of_ble_eq_true rfl⟩, C.1.2.2.2.2 _ (List.mem_cons_of_mem _ wl_129), trivial⟩ [1] rfl rfl rfl rfl (Nat.le_of_ble_eq_true rfl) ⟨Nat.zero_le _, Nat.zero_le _⟩ dX1_costOf_5) 8 rfl ?_
  subst hR
  exact g_iret C hr hlocks hA (by first | (dsimp only; done) | rfl) (by first | (dsimp only; done) | rfl) dX1_costOf_8
theorem hd_X1_setCost : yX1_setCost.cls = RX1 ∧ yX1_setCost.cls ≠ "java/lang/invoke/MethodHandle" ∧ yX1_setCost.cls ≠ "java/lang/invoke/VarHandle" ∧ (parseMethodDescriptor yX1_setCost.desc).map (fun d => d.parameters.length) = some 2 := by decide +kernel
def f_X1_setCost (F : Nat → Int32) (p0 : Int32) (p1 : Int32) : Bool × (Nat → Int32) :=
  if (b2i (f_X3_isOneOf p0 4)) = 0 then
    (false, F)
  else
    (true, (upd F (Int32.toNatClampNeg p0) p1))
set_option maxRecDepth 100000 in
set_option maxHeartbeats 4000000 in
theorem k_X1_setCost (l : Launch) (g : gE) (h0 : Nat) (a1 : Nat) (a2 : Nat) (a3 : Nat) (a4 : Nat) (a5 : Nat) (jc : Int32) (hd : Int32) (sc : Int32) (pr : Int32) (pc : Int32) (F : Nat → Int32) (p0 : Int32) (p1 : Int32) : FnI l g yX1_setCost wA_X1_setCost { frames := 1, cells := 0, slots := 0, locals := 21 } [.ref h0, .int p0, .int p1] ([(h0, .inr (1, [.ref a1, .int jc, .int hd, .ref a2, .ref a3, .int sc, .ref a4, .int pr, .ref a5, .int pc])), (a4, .inl (g.2.1 0, 4, .inl F))]) (b2i ((f_X1_setCost F p0 p1).1)) ([(h0, .inr (1, [.ref a1, .int jc, .int hd, .ref a2, .ref a3, .int sc, .ref a4, .int pr, .ref a5, .int pc])), (a4, .inl (g.2.1 0, 4, .inl ((f_X1_setCost F p0 p1).2)))]) := by
  generalize hR : f_X1_setCost F p0 p1 = R_
  refine fEntry (As := [.ref h0, .int p0, .int p1]) (maxL := 3) (ret := (some .boolean)) (by decide) rfl [some (.ref h0), some (.int p0), some (.int p1)] (Nat.le_of_ble_eq_true rfl) (lvInB.to (lvInB.sm (lvInB.sm (lvInB.sm lvInB.nil)))) ?_
  intro p e s m below meth c A C hr hlocks hname hA
  have C : Cx p s m _ c g A cX1_setCost 3 wA_X1_setCost RX1 := C
  rw [f_X1_setCost] at hR
  refine g_iload_n C dX1_setCost_0 rfl 1 rfl ?_
  refine g_aload_n C dX1_setCost_1 rfl 2 rfl ?_
  refine g_get (v := .ref a4) C (hiC hiA_1) 0 rfl rfl 6 (by decide) (List.mem_cons_of_mem _ wl_46) rfl rfl dX1_setCost_2 5 rfl ?_
  refine g_alen C 1 0 rfl rfl 4 (show Int32.ofNat 4 = 4 by decide) dX1_setCost_5 6 rfl ?_
  refine g_callIR C (rn_SN C (k_X3_isOneOf l g p0 4) ⟨va_cnB 2 C.1.2.2.2.2 (gdA wl_95) rfl rfl rfl (nst C (List.mem_of_getElem? (i := 39) rfl)) (C.1.2.2.2.2 _ (List.mem_cons_of_mem _ wl_2)) hd_X3_isOneOf.2 ⟨Nat.le_of_ble_eq_true rfl, Nat.le_of_ble_eq_true rfl⟩, C.1.2.2.2.2 _ (List.mem_cons_of_mem _ wl_94), trivial⟩ [] rfl rfl rfl rfl (Nat.le_of_ble_eq_true rfl) ⟨Nat.zero_le _, Nat.zero_le _⟩ dX1_setCost_6) 9 rfl ?_
  refine g_if_ne C dX1_setCost_9 hR 14 12 (by decide) rfl (fun c_9 hR => ?_) (fun c_9 hR => ?_)
  · refine g_aload_n C dX1_setCost_14 rfl 15 rfl ?_
    refine g_get (v := .ref a4) C (hiC hiA_1) 0 rfl rfl 6 (by decide) (List.mem_cons_of_mem _ wl_46) rfl rfl dX1_setCost_15 18 rfl ?_
    refine g_iload_n C dX1_setCost_18 rfl 19 rfl ?_
    refine g_iload_n C dX1_setCost_19 rfl 20 rfl ?_
    refine g_iast (f := F) C 1 rfl (one_in c_9 (by decide)) dX1_setCost_20 ([(h0, .inr (1, [.ref a1, .int jc, .int hd, .ref a2, .ref a3, .int sc, .ref a4, .int pr, .ref a5, .int pc])), (a4, .inl (g.2.1 0, 4, .inl (upd F (Int32.toNatClampNeg p0) p1)))]) rfl 21 rfl ?_
    refine g_iconst C dX1_setCost_21 1 ic_1 22 rfl ?_
    subst hR
    exact g_zret C hr hlocks (by decide) hA rfl (by first | (dsimp only; done) | rfl) dX1_setCost_22
  · refine g_iconst C dX1_setCost_12 0 ic_0 13 rfl ?_
    subst hR
    exact g_zret C hr hlocks (by decide) hA rfl (by first | (dsimp only; done) | rfl) dX1_setCost_13
theorem hd_X1_addPerson : yX1_addPerson.cls = RX1 ∧ yX1_addPerson.cls ≠ "java/lang/invoke/MethodHandle" ∧ yX1_addPerson.cls ≠ "java/lang/invoke/VarHandle" ∧ (parseMethodDescriptor yX1_addPerson.desc).map (fun d => d.parameters.length) = some 1 := by decide +kernel
def f_X1_addPerson (pc : Int32) (F : Nat → Int32) (p0 : Int32) : Bool × Int32 × (Nat → Int32) :=
  if (b2i (f_X3_isOneOf pc 4)) = 0 then
    (false, pc, F)
  else
    (true, (pc + 1), (upd F (Int32.toNatClampNeg pc) p0))
set_option maxRecDepth 100000 in
set_option maxHeartbeats 4000000 in
theorem k_X1_addPerson (l : Launch) (g : gE) (h0 : Nat) (a1 : Nat) (a2 : Nat) (a3 : Nat) (a4 : Nat) (a5 : Nat) (jc : Int32) (hd : Int32) (sc : Int32) (pr : Int32) (pc : Int32) (F : Nat → Int32) (p0 : Int32) : FnI l g yX1_addPerson wA_X1_addPerson { frames := 1, cells := 0, slots := 0, locals := 21 } [.ref h0, .int p0] ([(h0, .inr (1, [.ref a1, .int jc, .int hd, .ref a2, .ref a3, .int sc, .ref a4, .int pr, .ref a5, .int pc])), (a5, .inl (g.2.1 0, 4, .inl F))]) (b2i ((f_X1_addPerson pc F p0).1)) ([(h0, .inr (1, [.ref a1, .int jc, .int hd, .ref a2, .ref a3, .int sc, .ref a4, .int pr, .ref a5, .int ((f_X1_addPerson pc F p0).2.1)])), (a5, .inl (g.2.1 0, 4, .inl ((f_X1_addPerson pc F p0).2.2)))]) := by
  generalize hR : f_X1_addPerson pc F p0 = R_
  refine fEntry (As := [.ref h0, .int p0]) (maxL := 2) (ret := (some .boolean)) (by decide) rfl [some (.ref h0), some (.int p0)] (Nat.le_of_ble_eq_true rfl) (lvInB.to (lvInB.sm (lvInB.sm lvInB.nil))) ?_
  intro p e s m below meth c A C hr hlocks hname hA
  have C : Cx p s m _ c g A cX1_addPerson 2 wA_X1_addPerson RX1 := C
  rw [f_X1_addPerson] at hR
  refine g_aload_n C dX1_addPerson_0 rfl 1 rfl ?_
  refine g_get (v := .int pc) C (hiC hiA_1) 0 rfl rfl 9 (by decide) (List.mem_cons_of_mem _ wl_49) rfl rfl dX1_addPerson_1 4 rfl ?_
  refine g_aload_n C dX1_addPerson_4 rfl 5 rfl ?_
  refine g_get (v := .ref a5) C (hiC hiA_1) 0 rfl rfl 8 (by decide) (List.mem_cons_of_mem _ wl_48) rfl rfl dX1_addPerson_5 8 rfl ?_
  refine g_alen C 1 0 rfl rfl 4 (show Int32.ofNat 4 = 4 by decide) dX1_addPerson_8 9 rfl ?_
  refine g_callIR C (rn_SN C (k_X3_isOneOf l g pc 4) ⟨va_cnB 2 C.1.2.2.2.2 (gdA wl_95) rfl rfl rfl (nst C (List.mem_of_getElem? (i := 39) rfl)) (C.1.2.2.2.2 _ (List.mem_cons_of_mem _ wl_2)) hd_X3_isOneOf.2 ⟨Nat.le_of_ble_eq_true rfl, Nat.le_of_ble_eq_true rfl⟩, C.1.2.2.2.2 _ (List.mem_cons_of_mem _ wl_94), trivial⟩ [] rfl rfl rfl rfl (Nat.le_of_ble_eq_true rfl) ⟨Nat.zero_le _, Nat.zero_le _⟩ dX1_addPerson_9) 12 rfl ?_
  refine g_if_ne C dX1_addPerson_12 hR 17 15 (by decide) rfl (fun c_12 hR => ?_) (fun c_12 hR => ?_)
  · refine g_aload_n C dX1_addPerson_17 rfl 18 rfl ?_
    refine g_get (v := .ref a5) C (hiC hiA_1) 0 rfl rfl 8 (by decide) (List.mem_cons_of_mem _ wl_48) rfl rfl dX1_addPerson_18 21 rfl ?_
    refine g_aload_n C dX1_addPerson_21 rfl 22 rfl ?_
    refine g_get (v := .int pc) C (hiC hiA_1) 0 rfl rfl 9 (by decide) (List.mem_cons_of_mem _ wl_49) rfl rfl dX1_addPerson_22 25 rfl ?_
    refine g_iload_n C dX1_addPerson_25 rfl 26 rfl ?_
    refine g_iast (f := F) C 1 rfl (one_in c_12 (by decide)) dX1_addPerson_26 ([(h0, .inr (1, [.ref a1, .int jc, .int hd, .ref a2, .ref a3, .int sc, .ref a4, .int pr, .ref a5, .int pc])), (a5, .inl (g.2.1 0, 4, .inl (upd F (Int32.toNatClampNeg pc) p0)))]) rfl 27 rfl ?_
    refine g_aload_n C dX1_addPerson_27 rfl 28 rfl ?_
    refine g_dup C dX1_addPerson_28 rfl 29 rfl ?_
    refine g_get (v := .int pc) C (hiC hiA_1) 0 rfl rfl 9 (by decide) (List.mem_cons_of_mem _ wl_49) rfl rfl dX1_addPerson_29 32 rfl ?_
    refine g_iconst C dX1_addPerson_32 1 ic_1 33 rfl ?_
    refine g_iadd C dX1_addPerson_33 34 rfl ?_
    refine g_put C (hiC hiA_1) tyX1 tyX1_ok nmX1 0 rfl rfl 9 (by decide) (List.mem_cons_of_mem _ wl_49) rfl rfl rfl rfl (Nat.le_of_ble_eq_true rfl) dX1_addPerson_34 ([(h0, .inr (1, [.ref a1, .int jc, .int hd, .ref a2, .ref a3, .int sc, .ref a4, .int pr, .ref a5, .int (pc + 1)])), (a5, .inl (g.2.1 0, 4, .inl (upd F (Int32.toNatClampNeg pc) p0)))]) rfl 37 rfl ?_
    refine g_iconst C dX1_addPerson_37 1 ic_1 38 rfl ?_
    subst hR
    exact g_zret C hr hlocks (by decide) hA rfl (by first | (dsimp only; done) | rfl) dX1_addPerson_38
  · refine g_iconst C dX1_addPerson_15 0 ic_0 16 rfl ?_
    subst hR
    exact g_zret C hr hlocks (by decide) hA rfl (by first | (dsimp only; done) | rfl) dX1_addPerson_16
theorem hd_X1_addSeen : yX1_addSeen.cls = RX1 ∧ yX1_addSeen.cls ≠ "java/lang/invoke/MethodHandle" ∧ yX1_addSeen.cls ≠ "java/lang/invoke/VarHandle" ∧ (parseMethodDescriptor yX1_addSeen.desc).map (fun d => d.parameters.length) = some 2 := by decide +kernel
def f_X1_addSeen (jc : Int32) (hd : Int32) (sc : Int32) (F : Nat → Int32) (F1 : Nat → Int32) (p0 : Int32) (p1 : Int32) : Bool × Int32 × (Nat → Int32) × (Nat → Int32) :=
  if jIn jc hd then
    if (b2i (f_X3_isOneOf p0 4)) = 0 then
      (false, sc, F, F1)
    else
      if (b2i (f_X3_isOneOf p1 2)) = 0 then
        (false, sc, F, F1)
      else
        if (b2i (f_X3_isOneOf sc 8)) = 0 then
          (false, sc, F, F1)
        else
          (true, (sc + 1), (upd F (Int32.toNatClampNeg sc) p0), (upd F1 (Int32.toNatClampNeg sc) p1))
  else
    (false, sc, F, F1)
set_option maxRecDepth 100000 in
set_option maxHeartbeats 4000000 in
theorem k_X1_addSeen (l : Launch) (g : gE) (h0 : Nat) (a1 : Nat) (a2 : Nat) (a3 : Nat) (a4 : Nat) (a5 : Nat) (jc : Int32) (hd : Int32) (sc : Int32) (pr : Int32) (pc : Int32) (y : Nat → Nat) (F : Nat → Int32) (F1 : Nat → Int32) (p0 : Int32) (p1 : Int32) : FnI l g yX1_addSeen wA_X1_addSeen { frames := 3, cells := 0, slots := 0, locals := 62 } [.ref h0, .int p0, .int p1] ([(h0, .inr (1, [.ref a1, .int jc, .int hd, .ref a2, .ref a3, .int sc, .ref a4, .int pr, .ref a5, .int pc])), (a1, .inl (g.2.1 2, 5, .inr (.inr (.inr (.inr (fun i => some (y i))))))), (a2, .inl (g.2.1 0, 8, .inl F)), (a3, .inl (g.2.1 0, 8, .inl F1))]) (b2i ((f_X1_addSeen jc hd sc F F1 p0 p1).1)) ([(h0, .inr (1, [.ref a1, .int jc, .int hd, .ref a2, .ref a3, .int ((f_X1_addSeen jc hd sc F F1 p0 p1).2.1), .ref a4, .int pr, .ref a5, .int pc])), (a1, .inl (g.2.1 2, 5, .inr (.inr (.inr (.inr (fun i => some (y i))))))), (a2, .inl (g.2.1 0, 8, .inl ((f_X1_addSeen jc hd sc F F1 p0 p1).2.2.1))), (a3, .inl (g.2.1 0, 8, .inl ((f_X1_addSeen jc hd sc F F1 p0 p1).2.2.2)))]) := by
  generalize hR : f_X1_addSeen jc hd sc F F1 p0 p1 = R_
  refine fEntry (As := [.ref h0, .int p0, .int p1]) (maxL := 3) (ret := (some .boolean)) (by decide) rfl [some (.ref h0), some (.int p0), some (.int p1)] (Nat.le_of_ble_eq_true rfl) (lvInB.to (lvInB.sm (lvInB.sm (lvInB.sm lvInB.nil)))) ?_
  intro p e s m below meth c A C hr hlocks hname hA
  have C : Cx p s m _ c g A cX1_addSeen 3 wA_X1_addSeen RX1 := C
  rw [f_X1_addSeen] at hR
  refine g_aload_n C dX1_addSeen_0 rfl 1 rfl ?_
  refine g_callQR C (rn_V C (k_X1_inHandq l g h0 a1 a2 a3 a4 a5 jc hd sc pr pc y) (cwV 0 C.1.2.2.2.2 (gdV wl_199 wl_196 wl_197 wl_198 wl_14) rfl rfl rfl hd_X1_inHand ⟨Nat.le_of_ble_eq_true rfl, Nat.le_of_ble_eq_true rfl⟩) 0 rfl rfl [0, 1] rfl rfl rfl rfl (Nat.le_of_ble_eq_true rfl) ⟨Nat.zero_le _, Nat.zero_le _⟩ dX1_addSeen_1) hR 4 rfl (fun c_1 hR => ?_) (fun c_1 hR => ?_)
  · have hj_1 : (Int32.toNatClampNeg hd) < 5 := jIn_lt c_1
    refine g_ifnull C dX1_addSeen_4 7 rfl ?_
    refine g_iload_n C dX1_addSeen_7 rfl 8 rfl ?_
    refine g_iconst C dX1_addSeen_8 4 ic_4 9 rfl ?_
    refine g_callIR C (rn_SN C (k_X3_isOneOf l g p0 4) ⟨va_cnB 2 C.1.2.2.2.2 (gdA wl_95) rfl rfl rfl (nst C (List.mem_of_getElem? (i := 39) rfl)) (C.1.2.2.2.2 _ (List.mem_cons_of_mem _ wl_2)) hd_X3_isOneOf.2 ⟨Nat.le_of_ble_eq_true rfl, Nat.le_of_ble_eq_true rfl⟩, C.1.2.2.2.2 _ (List.mem_cons_of_mem _ wl_94), trivial⟩ [] rfl rfl rfl rfl (Nat.le_of_ble_eq_true rfl) ⟨Nat.zero_le _, Nat.zero_le _⟩ dX1_addSeen_9) 12 rfl ?_
    refine g_if_eq C dX1_addSeen_12 hR 35 15 (by decide) rfl (fun c_12 hR => ?_) (fun c_12 hR => ?_)
    · refine g_iconst C dX1_addSeen_35 0 ic_0 36 rfl ?_
      subst hR
      exact g_zret C hr hlocks (by decide) hA rfl (by first | (dsimp only; done) | rfl) dX1_addSeen_36
    · refine g_iload_n C dX1_addSeen_15 rfl 16 rfl ?_
      refine g_iconst C dX1_addSeen_16 2 ic_2 17 rfl ?_
      refine g_callIR C (rn_SN C (k_X3_isOneOf l g p1 2) ⟨va_cnB 2 C.1.2.2.2.2 (gdA wl_95) rfl rfl rfl (nst C (List.mem_of_getElem? (i := 39) rfl)) (C.1.2.2.2.2 _ (List.mem_cons_of_mem _ wl_2)) hd_X3_isOneOf.2 ⟨Nat.le_of_ble_eq_true rfl, Nat.le_of_ble_eq_true rfl⟩, C.1.2.2.2.2 _ (List.mem_cons_of_mem _ wl_94), trivial⟩ [] rfl rfl rfl rfl (Nat.le_of_ble_eq_true rfl) ⟨Nat.zero_le _, Nat.zero_le _⟩ dX1_addSeen_17) 20 rfl ?_
      refine g_if_eq C dX1_addSeen_20 hR 35 23 (by decide) rfl (fun c_20 hR => ?_) (fun c_20 hR => ?_)
      · refine g_iconst C dX1_addSeen_35 0 ic_0 36 rfl ?_
        subst hR
        exact g_zret C hr hlocks (by decide) hA rfl (by first | (dsimp only; done) | rfl) dX1_addSeen_36
      · refine g_aload_n C dX1_addSeen_23 rfl 24 rfl ?_
        refine g_get (v := .int sc) C (hiC hiA_1) 0 rfl rfl 5 (by decide) (List.mem_cons_of_mem _ wl_45) rfl rfl dX1_addSeen_24 27 rfl ?_
        refine g_bipush C dX1_addSeen_27 8 bp_8 29 rfl ?_
        refine g_callIR C (rn_SN C (k_X3_isOneOf l g sc 8) ⟨va_cnB 2 C.1.2.2.2.2 (gdA wl_95) rfl rfl rfl (nst C (List.mem_of_getElem? (i := 39) rfl)) (C.1.2.2.2.2 _ (List.mem_cons_of_mem _ wl_2)) hd_X3_isOneOf.2 ⟨Nat.le_of_ble_eq_true rfl, Nat.le_of_ble_eq_true rfl⟩, C.1.2.2.2.2 _ (List.mem_cons_of_mem _ wl_94), trivial⟩ [] rfl rfl rfl rfl (Nat.le_of_ble_eq_true rfl) ⟨Nat.zero_le _, Nat.zero_le _⟩ dX1_addSeen_29) 32 rfl ?_
        refine g_if_ne C dX1_addSeen_32 hR 37 35 (by decide) rfl (fun c_32 hR => ?_) (fun c_32 hR => ?_)
        · refine g_aload_n C dX1_addSeen_37 rfl 38 rfl ?_
          refine g_get (v := .ref a2) C (hiC hiA_1) 0 rfl rfl 3 (by decide) (List.mem_cons_of_mem _ wl_43) rfl rfl dX1_addSeen_38 41 rfl ?_
          refine g_aload_n C dX1_addSeen_41 rfl 42 rfl ?_
          refine g_get (v := .int sc) C (hiC hiA_1) 0 rfl rfl 5 (by decide) (List.mem_cons_of_mem _ wl_45) rfl rfl dX1_addSeen_42 45 rfl ?_
          refine g_iload_n C dX1_addSeen_45 rfl 46 rfl ?_
          refine g_iast (f := F) C 2 rfl (one_in c_32 (by decide)) dX1_addSeen_46 ([(h0, .inr (1, [.ref a1, .int jc, .int hd, .ref a2, .ref a3, .int sc, .ref a4, .int pr, .ref a5, .int pc])), (a1, .inl (g.2.1 2, 5, .inr (.inr (.inr (.inr (fun i => some (y i))))))), (a2, .inl (g.2.1 0, 8, .inl (upd F (Int32.toNatClampNeg sc) p0))), (a3, .inl (g.2.1 0, 8, .inl F1))]) rfl 47 rfl ?_
          refine g_aload_n C dX1_addSeen_47 rfl 48 rfl ?_
          refine g_get (v := .ref a3) C (hiC hiA_1) 0 rfl rfl 4 (by decide) (List.mem_cons_of_mem _ wl_44) rfl rfl dX1_addSeen_48 51 rfl ?_
          refine g_aload_n C dX1_addSeen_51 rfl 52 rfl ?_
          refine g_get (v := .int sc) C (hiC hiA_1) 0 rfl rfl 5 (by decide) (List.mem_cons_of_mem _ wl_45) rfl rfl dX1_addSeen_52 55 rfl ?_
          refine g_iload_n C dX1_addSeen_55 rfl 56 rfl ?_
          refine g_iast (f := F1) C 3 rfl (one_in c_32 (by decide)) dX1_addSeen_56 ([(h0, .inr (1, [.ref a1, .int jc, .int hd, .ref a2, .ref a3, .int sc, .ref a4, .int pr, .ref a5, .int pc])), (a1, .inl (g.2.1 2, 5, .inr (.inr (.inr (.inr (fun i => some (y i))))))), (a2, .inl (g.2.1 0, 8, .inl (upd F (Int32.toNatClampNeg sc) p0))), (a3, .inl (g.2.1 0, 8, .inl (upd F1 (Int32.toNatClampNeg sc) p1)))]) rfl 57 rfl ?_
          refine g_aload_n C dX1_addSeen_57 rfl 58 rfl ?_
          refine g_dup C dX1_addSeen_58 rfl 59 rfl ?_
          refine g_get (v := .int sc) C (hiC hiA_1) 0 rfl rfl 5 (by decide) (List.mem_cons_of_mem _ wl_45) rfl rfl dX1_addSeen_59 62 rfl ?_
          refine g_iconst C dX1_addSeen_62 1 ic_1 63 rfl ?_
          refine g_iadd C dX1_addSeen_63 64 rfl ?_
          refine g_put C (hiC hiA_1) tyX1 tyX1_ok nmX1 0 rfl rfl 5 (by decide) (List.mem_cons_of_mem _ wl_45) rfl rfl rfl rfl (Nat.le_of_ble_eq_true rfl) dX1_addSeen_64 ([(h0, .inr (1, [.ref a1, .int jc, .int hd, .ref a2, .ref a3, .int (sc + 1), .ref a4, .int pr, .ref a5, .int pc])), (a1, .inl (g.2.1 2, 5, .inr (.inr (.inr (.inr (fun i => some (y i))))))), (a2, .inl (g.2.1 0, 8, .inl (upd F (Int32.toNatClampNeg sc) p0))), (a3, .inl (g.2.1 0, 8, .inl (upd F1 (Int32.toNatClampNeg sc) p1)))]) rfl 67 rfl ?_
          refine g_iconst C dX1_addSeen_67 1 ic_1 68 rfl ?_
          subst hR
          exact g_zret C hr hlocks (by decide) hA rfl (by first | (dsimp only; done) | rfl) dX1_addSeen_68
        · refine g_iconst C dX1_addSeen_35 0 ic_0 36 rfl ?_
          subst hR
          exact g_zret C hr hlocks (by decide) hA rfl (by first | (dsimp only; done) | rfl) dX1_addSeen_36
  · refine g_ifnullN C dX1_addSeen_4 35 (by decide) ?_
    refine g_iconst C dX1_addSeen_35 0 ic_0 36 rfl ?_
    subst hR
    exact g_zret C hr hlocks (by decide) hA rfl (by first | (dsimp only; done) | rfl) dX1_addSeen_36
theorem hd_X1_takeInHand : yX1_takeInHand.cls = RX1 ∧ yX1_takeInHand.cls ≠ "java/lang/invoke/MethodHandle" ∧ yX1_takeInHand.cls ≠ "java/lang/invoke/VarHandle" ∧ (parseMethodDescriptor yX1_takeInHand.desc).map (fun d => d.parameters.length) = some 1 := by decide +kernel
def f_X1_takeInHand (jc : Int32) (hd : Int32) (sc : Int32) (p0 : Int32) : Bool × Int32 × Int32 :=
  if jIn jc p0 then
    (true, p0, 0)
  else
    (false, hd, sc)
set_option maxRecDepth 100000 in
set_option maxHeartbeats 4000000 in
theorem k_X1_takeInHand (l : Launch) (g : gE) (h0 : Nat) (a1 : Nat) (a2 : Nat) (a3 : Nat) (a4 : Nat) (a5 : Nat) (jc : Int32) (hd : Int32) (sc : Int32) (pr : Int32) (pc : Int32) (y : Nat → Nat) (p0 : Int32) : FnI l g yX1_takeInHand wA_X1_takeInHand { frames := 2, cells := 0, slots := 0, locals := 42 } [.ref h0, .int p0] ([(h0, .inr (1, [.ref a1, .int jc, .int hd, .ref a2, .ref a3, .int sc, .ref a4, .int pr, .ref a5, .int pc])), (a1, .inl (g.2.1 2, 5, .inr (.inr (.inr (.inr (fun i => some (y i)))))))]) (b2i ((f_X1_takeInHand jc hd sc p0).1)) ([(h0, .inr (1, [.ref a1, .int jc, .int ((f_X1_takeInHand jc hd sc p0).2.1), .ref a2, .ref a3, .int ((f_X1_takeInHand jc hd sc p0).2.2), .ref a4, .int pr, .ref a5, .int pc])), (a1, .inl (g.2.1 2, 5, .inr (.inr (.inr (.inr (fun i => some (y i)))))))]) := by
  generalize hR : f_X1_takeInHand jc hd sc p0 = R_
  refine fEntry (As := [.ref h0, .int p0]) (maxL := 2) (ret := (some .boolean)) (by decide) rfl [some (.ref h0), some (.int p0)] (Nat.le_of_ble_eq_true rfl) (lvInB.to (lvInB.sm (lvInB.sm lvInB.nil))) ?_
  intro p e s m below meth c A C hr hlocks hname hA
  have C : Cx p s m _ c g A cX1_takeInHand 2 wA_X1_takeInHand RX1 := C
  rw [f_X1_takeInHand] at hR
  refine g_aload_n C dX1_takeInHand_0 rfl 1 rfl ?_
  refine g_iload_n C dX1_takeInHand_1 rfl 2 rfl ?_
  refine g_callQR C (rn_V C (k_X1_jugAtq l g h0 a1 a2 a3 a4 a5 jc hd sc pr pc y p0) (cwV 1 C.1.2.2.2.2 (gdV wl_143 wl_140 wl_141 wl_142 wl_14) rfl rfl rfl hd_X1_jugAt ⟨Nat.le_of_ble_eq_true rfl, Nat.le_of_ble_eq_true rfl⟩) 0 rfl rfl [0, 1] rfl rfl rfl rfl (Nat.le_of_ble_eq_true rfl) ⟨Nat.zero_le _, Nat.zero_le _⟩ dX1_takeInHand_2) hR 5 rfl (fun c_2 hR => ?_) (fun c_2 hR => ?_)
  · have hj_2 : (Int32.toNatClampNeg p0) < 5 := jIn_lt c_2
    refine g_nonnull C dX1_takeInHand_5 10 (by decide) ?_
    refine g_aload_n C dX1_takeInHand_10 rfl 11 rfl ?_
    refine g_iload_n C dX1_takeInHand_11 rfl 12 rfl ?_
    refine g_put C (hiC hiA_1) tyX1 tyX1_ok nmX1 0 rfl rfl 2 (by decide) (List.mem_cons_of_mem _ wl_42) rfl rfl rfl rfl (Nat.le_of_ble_eq_true rfl) dX1_takeInHand_12 ([(h0, .inr (1, [.ref a1, .int jc, .int p0, .ref a2, .ref a3, .int sc, .ref a4, .int pr, .ref a5, .int pc])), (a1, .inl (g.2.1 2, 5, .inr (.inr (.inr (.inr (fun i => some (y i)))))))]) rfl 15 rfl ?_
    refine g_aload_n C dX1_takeInHand_15 rfl 16 rfl ?_
    refine g_iconst C dX1_takeInHand_16 0 ic_0 17 rfl ?_
    refine g_put C (hiC hiA_1) tyX1 tyX1_ok nmX1 0 rfl rfl 5 (by decide) (List.mem_cons_of_mem _ wl_45) rfl rfl rfl rfl (Nat.le_of_ble_eq_true rfl) dX1_takeInHand_17 ([(h0, .inr (1, [.ref a1, .int jc, .int p0, .ref a2, .ref a3, .int 0, .ref a4, .int pr, .ref a5, .int pc])), (a1, .inl (g.2.1 2, 5, .inr (.inr (.inr (.inr (fun i => some (y i)))))))]) rfl 20 rfl ?_
    refine g_iconst C dX1_takeInHand_20 1 ic_1 21 rfl ?_
    subst hR
    exact g_zret C hr hlocks (by decide) hA rfl (by first | (dsimp only; done) | rfl) dX1_takeInHand_21
  · refine g_nonnullN C dX1_takeInHand_5 8 rfl ?_
    refine g_iconst C dX1_takeInHand_8 0 ic_0 9 rfl ?_
    subst hR
    exact g_zret C hr hlocks (by decide) hA rfl (by first | (dsimp only; done) | rfl) dX1_takeInHand_9
theorem hd_X1_netOf : yX1_netOf.cls = RX1 ∧ yX1_netOf.cls ≠ "java/lang/invoke/MethodHandle" ∧ yX1_netOf.cls ≠ "java/lang/invoke/VarHandle" ∧ (parseMethodDescriptor yX1_netOf.desc).map (fun d => d.parameters.length) = some 3 := by decide +kernel
def f_X1_netOf (pr : Int32) (p0 : Int32) (p1 : Int32) (p2 : Int32) : Int32 :=
  if p0 = 4 then
    ((-pr) - ((f_X3_at_s 2 ((p0 * 5) + p1)) * (f_X3_at_s 3 p2)))
  else
    ((f_X3_at_s 1 ((p0 * 5) + p1)) - ((f_X3_at_s 2 ((p0 * 5) + p1)) * (f_X3_at_s 3 p2)))
set_option maxRecDepth 100000 in
set_option maxHeartbeats 4000000 in
theorem k_X1_netOf (l : Launch) (g : gE) (h0 : Nat) (a1 : Nat) (a2 : Nat) (a3 : Nat) (a4 : Nat) (a5 : Nat) (jc : Int32) (hd : Int32) (sc : Int32) (pr : Int32) (pc : Int32) (p0 : Int32) (p1 : Int32) (p2 : Int32) : FnI l g yX1_netOf wA_X1_netOf { frames := 1, cells := 0, slots := 0, locals := 21 } [.ref h0, .int p0, .int p1, .int p2] ([(h0, .inr (1, [.ref a1, .int jc, .int hd, .ref a2, .ref a3, .int sc, .ref a4, .int pr, .ref a5, .int pc]))]) (f_X1_netOf pr p0 p1 p2) ([(h0, .inr (1, [.ref a1, .int jc, .int hd, .ref a2, .ref a3, .int sc, .ref a4, .int pr, .ref a5, .int pc]))]) := by
  generalize hR : f_X1_netOf pr p0 p1 p2 = R_
  refine fEntry (As := [.ref h0, .int p0, .int p1, .int p2]) (maxL := 6) (ret := (some .int)) (by decide) rfl [some (.ref h0), some (.int p0), some (.int p1), some (.int p2), none, none] (Nat.le_of_ble_eq_true rfl) (lvInB.to (lvInB.sm (lvInB.sm (lvInB.sm (lvInB.sm (lvInB.nn (lvInB.nn lvInB.nil))))))) ?_
  intro p e s m below meth c A C hr hlocks hname hA
  have C : Cx p s m _ c g A cX1_netOf 6 wA_X1_netOf RX1 := C
  rw [f_X1_netOf] at hR
  refine g_iload_n C dX1_netOf_0 rfl 1 rfl ?_
  refine g_iconst C dX1_netOf_1 5 ic_5 2 rfl ?_
  refine g_imul C dX1_netOf_2 3 rfl ?_
  refine g_iload_n C dX1_netOf_3 rfl 4 rfl ?_
  refine g_iadd C dX1_netOf_4 5 rfl ?_
  refine g_istore C dX1_netOf_5 [_, _, _, _, _, _] (Nat.le_of_ble_eq_true rfl) rfl rfl 7 rfl ?_
  refine g_iload_n C dX1_netOf_7 rfl 8 rfl ?_
  refine g_iconst C dX1_netOf_8 4 ic_4 9 rfl ?_
  refine g_icmp_ne C dX1_netOf_9 hR 20 12 (by decide) rfl (fun c_9 hR => ?_) (fun c_9 hR => ?_)
  · refine g_staticN (host := RX3) C 1 (by decide) (List.mem_of_getElem? (i := 13) rfl) dX1_netOf_20 23 rfl ?_
    refine g_iload C dX1_netOf_23 rfl 25 rfl ?_
    refine g_callIR C (rn_SN C (k_X3_at_s l g 1 ((p0 * 5) + p1) (by decide)) ⟨va_cnB 2 C.1.2.2.2.2 (gdA wl_130) rfl rfl rfl (nst C (List.mem_of_getElem? (i := 44) rfl)) (C.1.2.2.2.2 _ (List.mem_cons_of_mem _ wl_2)) hd_X3_at.2 ⟨Nat.le_of_ble_eq_true rfl, Nat.le_of_ble_eq_true rfl⟩, C.1.2.2.2.2 _ (List.mem_cons_of_mem _ wl_129), trivial⟩ [] rfl rfl rfl rfl (Nat.le_of_ble_eq_true rfl) ⟨Nat.zero_le _, Nat.zero_le _⟩ dX1_netOf_25) 28 rfl ?_
    refine g_istore C dX1_netOf_28 [_, _, _, _, _, _] (Nat.le_of_ble_eq_true rfl) rfl rfl 30 rfl ?_
    refine g_iload C dX1_netOf_30 rfl 32 rfl ?_
    refine g_staticN (host := RX3) C 2 (by decide) (List.mem_of_getElem? (i := 14) rfl) dX1_netOf_32 35 rfl ?_
    refine g_iload C dX1_netOf_35 rfl 37 rfl ?_
    refine g_callIR C (rn_SN C (k_X3_at_s l g 2 ((p0 * 5) + p1) (by decide)) ⟨va_cnB 2 C.1.2.2.2.2 (gdA wl_130) rfl rfl rfl (nst C (List.mem_of_getElem? (i := 44) rfl)) (C.1.2.2.2.2 _ (List.mem_cons_of_mem _ wl_2)) hd_X3_at.2 ⟨Nat.le_of_ble_eq_true rfl, Nat.le_of_ble_eq_true rfl⟩, C.1.2.2.2.2 _ (List.mem_cons_of_mem _ wl_129), trivial⟩ [] rfl rfl rfl rfl (Nat.le_of_ble_eq_true rfl) ⟨Nat.zero_le _, Nat.zero_le _⟩ dX1_netOf_37) 40 rfl ?_
    refine g_staticN (host := RX3) C 3 (by decide) (List.mem_of_getElem? (i := 15) rfl) dX1_netOf_40 43 rfl ?_
    refine g_iload_n C dX1_netOf_43 rfl 44 rfl ?_
    refine g_callIR C (rn_SN C (k_X3_at_s l g 3 p2 (by decide)) ⟨va_cnB 2 C.1.2.2.2.2 (gdA wl_130) rfl rfl rfl (nst C (List.mem_of_getElem? (i := 44) rfl)) (C.1.2.2.2.2 _ (List.mem_cons_of_mem _ wl_2)) hd_X3_at.2 ⟨Nat.le_of_ble_eq_true rfl, Nat.le_of_ble_eq_true rfl⟩, C.1.2.2.2.2 _ (List.mem_cons_of_mem _ wl_129), trivial⟩ [] rfl rfl rfl rfl (Nat.le_of_ble_eq_true rfl) ⟨Nat.zero_le _, Nat.zero_le _⟩ dX1_netOf_44) 47 rfl ?_
    refine g_imul C dX1_netOf_47 48 rfl ?_
    refine g_isub C dX1_netOf_48 49 rfl ?_
    subst hR
    exact g_iret C hr hlocks hA (by first | (dsimp only; done) | rfl) (by first | (dsimp only; done) | rfl) dX1_netOf_49
  · refine g_aload_n C dX1_netOf_12 rfl 13 rfl ?_
    refine g_get (v := .int pr) C (hiC hiA_1) 0 rfl rfl 7 (by decide) (List.mem_cons_of_mem _ wl_47) rfl rfl dX1_netOf_13 16 rfl ?_
    refine g_ineg C dX1_netOf_16 17 rfl ?_
    refine g_goto C dX1_netOf_17 28 (by decide) ?_
    refine g_istore C dX1_netOf_28 [_, _, _, _, _, _] (Nat.le_of_ble_eq_true rfl) rfl rfl 30 rfl ?_
    refine g_iload C dX1_netOf_30 rfl 32 rfl ?_
    refine g_staticN (host := RX3) C 2 (by decide) (List.mem_of_getElem? (i := 14) rfl) dX1_netOf_32 35 rfl ?_
    refine g_iload C dX1_netOf_35 rfl 37 rfl ?_
    refine g_callIR C (rn_SN C (k_X3_at_s l g 2 ((p0 * 5) + p1) (by decide)) ⟨va_cnB 2 C.1.2.2.2.2 (gdA wl_130) rfl rfl rfl (nst C (List.mem_of_getElem? (i := 44) rfl)) (C.1.2.2.2.2 _ (List.mem_cons_of_mem _ wl_2)) hd_X3_at.2 ⟨Nat.le_of_ble_eq_true rfl, Nat.le_of_ble_eq_true rfl⟩, C.1.2.2.2.2 _ (List.mem_cons_of_mem _ wl_129), trivial⟩ [] rfl rfl rfl rfl (Nat.le_of_ble_eq_true rfl) ⟨Nat.zero_le _, Nat.zero_le _⟩ dX1_netOf_37) 40 rfl ?_
    refine g_staticN (host := RX3) C 3 (by decide) (List.mem_of_getElem? (i := 15) rfl) dX1_netOf_40 43 rfl ?_
    refine g_iload_n C dX1_netOf_43 rfl 44 rfl ?_
    refine g_callIR C (rn_SN C (k_X3_at_s l g 3 p2 (by decide)) ⟨va_cnB 2 C.1.2.2.2.2 (gdA wl_130) rfl rfl rfl (nst C (List.mem_of_getElem? (i := 44) rfl)) (C.1.2.2.2.2 _ (List.mem_cons_of_mem _ wl_2)) hd_X3_at.2 ⟨Nat.le_of_ble_eq_true rfl, Nat.le_of_ble_eq_true rfl⟩, C.1.2.2.2.2 _ (List.mem_cons_of_mem _ wl_129), trivial⟩ [] rfl rfl rfl rfl (Nat.le_of_ble_eq_true rfl) ⟨Nat.zero_le _, Nat.zero_le _⟩ dX1_netOf_44) 47 rfl ?_
    refine g_imul C dX1_netOf_47 48 rfl ?_
    refine g_isub C dX1_netOf_48 49 rfl ?_
    subst hR
    exact g_iret C hr hlocks hA (by first | (dsimp only; done) | rfl) (by first | (dsimp only; done) | rfl) dX1_netOf_49
theorem hd_X1_netSum : yX1_netSum.cls = RX1 ∧ yX1_netSum.cls ≠ "java/lang/invoke/MethodHandle" ∧ yX1_netSum.cls ≠ "java/lang/invoke/VarHandle" ∧ (parseMethodDescriptor yX1_netSum.desc).map (fun d => d.parameters.length) = some 3 := by decide +kernel
def f_X1_netSum_L6 (x1 : Int32) (x2 : Int32) (pr : Int32) (F : Nat → Int64) (N_ : Nat) : Nat → Int64 → Int32 → Option (Int64 × Int32)
  | 0, _, _ => none
  | n_ + 1, x4, x6 =>
    if 5 ≤ x6 then
      some (x4, x6)
    else
      (f_X2_sumOf F x6 x6 N_).bind fun v3 =>
      f_X1_netSum_L6 x1 x2 pr F N_ n_ (x4 + ((Int32.toInt64 (f_X1_netOf pr x1 x6 x2)) * v3)) (x6 + 1)
set_option maxRecDepth 100000 in
set_option maxHeartbeats 4000000 in
theorem k_X1_netSum_L6 (l : Launch) (g : gE) {p : Program} {e : Env} {s : State} {m : MethodId} {args : Array Value} {below : List Frame} {meth : Method} {c : Code} {Q : State → Prop} {A : Nat → Prop} {h0 : Nat} {a1 : Nat} {a2 : Nat} {a3 : Nat} {a4 : Nat} {a5 : Nat} {t0 : Nat} {t1 : Nat}  (C : Cx p s m args c g A cX1_netSum 7 wA_X1_netSum RX1) (N_ : Nat) (x1 : Int32) (x2 : Int32) (jc : Int32) (hd : Int32) (sc : Int32) (pr : Int32) (pc : Int32) (F : Nat → Int64) : ∀ (n_ : Nat) (x4 : Int64) (x6 : Int32) (rv_ : Int64 × Int32), f_X1_netSum_L6 x1 x2 pr F N_ n_ x4 x6 = some rv_ → (Gm p l e (headSpec wA_X1_netSum ({ frames := 2, cells := 0, slots := 0, locals := 46 } : Room)).room s m args below meth c Q g A 7 0 0 ([(h0, .inr (1, [.ref a1, .int jc, .int hd, .ref a2, .ref a3, .int sc, .ref a4, .int pr, .ref a5, .int pc])), (t0, .inr (2, [.ref t1])), (t1, .inl (g.2.1 1, 5, .inr (.inl F)))]) [some (.ref h0), some (.int x1), some (.int x2), some (.ref t0), some (.long rv_.1), none, some (.int rv_.2)] [] 41) → Gm p l e (headSpec wA_X1_netSum ({ frames := 2, cells := 0, slots := 0, locals := 46 } : Room)).room s m args below meth c Q g A 7 0 0 ([(h0, .inr (1, [.ref a1, .int jc, .int hd, .ref a2, .ref a3, .int sc, .ref a4, .int pr, .ref a5, .int pc])), (t0, .inr (2, [.ref t1])), (t1, .inl (g.2.1 1, 5, .inr (.inl F)))]) [some (.ref h0), some (.int x1), some (.int x2), some (.ref t0), some (.long x4), none, some (.int x6)] [] 6 := by
  intro n_
  induction n_ with
  | zero =>
    intro x4 x6 rv_ hR
    simp [f_X1_netSum_L6] at hR
  | succ n_ ih =>
    intro x4 x6 rv_ hR hk
    rw [f_X1_netSum_L6] at hR
    refine g_iload C dX1_netSum_6 rfl 8 rfl ?_
    refine g_iconst C dX1_netSum_8 5 ic_5 9 rfl ?_
    refine g_icmp_ge C dX1_netSum_9 hR 41 12 (by decide) rfl (fun c_9 hR => ?_) (fun c_9 hR => ?_)
    · obtain rfl := Option.some.inj hR
      refine g_lv [some (.ref h0), some (.int x1), some (.int x2), some (.ref t0), some (.long x4), none, some (.int x6)] (lvLe.sm (lvLe.sm (lvLe.sm (lvLe.sm (lvLe.sm (lvLe.nn (lvLe.sm lvLe.nil))))))) ?_
      exact hk
    · refine g_lload C dX1_netSum_12 rfl 14 rfl ?_
      refine g_aload_n C dX1_netSum_14 rfl 15 rfl ?_
      refine g_iload_n C dX1_netSum_15 rfl 16 rfl ?_
      refine g_iload C dX1_netSum_16 rfl 18 rfl ?_
      refine g_iload_n C dX1_netSum_18 rfl 19 rfl ?_
      refine g_callIR C (rn_V C (k_X1_netOf l g h0 a1 a2 a3 a4 a5 jc hd sc pr pc x1 x6 x2) (cwV 3 C.1.2.2.2.2 (gdV wl_517 wl_514 wl_515 wl_516 wl_14) rfl rfl rfl hd_X1_netOf ⟨Nat.le_of_ble_eq_true rfl, Nat.le_of_ble_eq_true rfl⟩) 0 rfl rfl [0] rfl rfl rfl rfl (Nat.le_of_ble_eq_true rfl) ⟨Nat.zero_le _, Nat.zero_le _⟩ dX1_netSum_19) 22 rfl ?_
      refine g_i2l C dX1_netSum_22 23 rfl ?_
      refine g_aload_n C dX1_netSum_23 rfl 24 rfl ?_
      refine g_iload C dX1_netSum_24 rfl 26 rfl ?_
      refine g_iload C dX1_netSum_26 rfl 28 rfl ?_
      obtain ⟨v3, hv3, hR⟩ := opt_b hR
      refine g_callLR C (rn_VN C (k_X2_sumOf l g t0 t1 F x6 x6 N_ v3 hv3) ⟨va_cnB 2 C.1.2.2.2.2 (gdA wl_427) rfl rfl rfl (nst C (List.mem_of_getElem? (i := 36) rfl)) (C.1.2.2.2.2 _ (List.mem_cons_of_mem _ wl_32)) hd_X2_sumOf.2 ⟨Nat.le_of_ble_eq_true rfl, Nat.le_of_ble_eq_true rfl⟩, C.1.2.2.2.2 _ (List.mem_cons_of_mem _ wl_425), C.1.2.2.2.2 _ (List.mem_cons_of_mem _ wl_426)⟩ 1 rfl rfl [1, 2] rfl rfl rfl rfl (Nat.le_of_ble_eq_true rfl) ⟨Nat.zero_le _, Nat.zero_le _⟩ dX1_netSum_28) 31 rfl ?_
      refine g_lmul C dX1_netSum_31 32 rfl ?_
      refine g_ladd C dX1_netSum_32 33 rfl ?_
      refine g_lstore C dX1_netSum_33 [_, _, _, _, _, _, _] (Nat.le_of_ble_eq_true rfl) rfl rfl 35 rfl ?_
      refine g_iinc C dX1_netSum_35 rfl 1 ic_1 [_, _, _, _, _, _, _] (Nat.le_of_ble_eq_true rfl) rfl rfl 38 rfl ?_
      refine g_goto C dX1_netSum_38 6 (by decide) ?_
      refine g_lv [some (.ref h0), some (.int x1), some (.int x2), some (.ref t0), some (.long (x4 + ((Int32.toInt64 (f_X1_netOf pr x1 x6 x2)) * v3))), none, some (.int (x6 + 1))] (lvLe.sm (lvLe.sm (lvLe.sm (lvLe.sm (lvLe.sm (lvLe.nn (lvLe.sm lvLe.nil))))))) ?_
      exact ih _ _ rv_ hR hk
def f_X1_netSum (pr : Int32) (F : Nat → Int64) (p0 : Int32) (p1 : Int32) (N_ : Nat) : Option (Int64) :=
  (f_X1_netSum_L6 p0 p1 pr F N_ N_ 0 0).bind fun v4 =>
  some v4.1
set_option maxRecDepth 100000 in
set_option maxHeartbeats 4000000 in
theorem k_X1_netSum (l : Launch) (g : gE) (h0 : Nat) (a1 : Nat) (a2 : Nat) (a3 : Nat) (a4 : Nat) (a5 : Nat) (t0 : Nat) (t1 : Nat) (jc : Int32) (hd : Int32) (sc : Int32) (pr : Int32) (pc : Int32) (F : Nat → Int64) (p0 : Int32) (p1 : Int32) (N_ : Nat) (R_ : Int64) (hR : f_X1_netSum pr F p0 p1 N_ = some R_) : FnL l g yX1_netSum wA_X1_netSum { frames := 2, cells := 0, slots := 0, locals := 46 } [.ref h0, .int p0, .int p1, .ref t0] ([(h0, .inr (1, [.ref a1, .int jc, .int hd, .ref a2, .ref a3, .int sc, .ref a4, .int pr, .ref a5, .int pc])), (t0, .inr (2, [.ref t1])), (t1, .inl (g.2.1 1, 5, .inr (.inl F)))]) R_ ([(h0, .inr (1, [.ref a1, .int jc, .int hd, .ref a2, .ref a3, .int sc, .ref a4, .int pr, .ref a5, .int pc])), (t0, .inr (2, [.ref t1])), (t1, .inl (g.2.1 1, 5, .inr (.inl F)))]) := by
  refine fEntry (As := [.ref h0, .int p0, .int p1, .ref t0]) (maxL := 7) (ret := (some .long)) (by decide) rfl [some (.ref h0), some (.int p0), some (.int p1), some (.ref t0), none, none, none] (Nat.le_of_ble_eq_true rfl) (lvInB.to (lvInB.sm (lvInB.sm (lvInB.sm (lvInB.sm (lvInB.nn (lvInB.nn (lvInB.nn lvInB.nil)))))))) ?_
  intro p e s m below meth c A C hr hlocks hname hA
  have C : Cx p s m _ c g A cX1_netSum 7 wA_X1_netSum RX1 := C
  rw [f_X1_netSum] at hR
  refine g_lconst C dX1_netSum_0 0 (by decide) 1 rfl ?_
  refine g_lstore C dX1_netSum_1 [_, _, _, _, _, _, _] (Nat.le_of_ble_eq_true rfl) rfl rfl 3 rfl ?_
  refine g_iconst C dX1_netSum_3 0 ic_0 4 rfl ?_
  refine g_istore C dX1_netSum_4 [_, _, _, _, _, _, _] (Nat.le_of_ble_eq_true rfl) rfl rfl 6 rfl ?_
  refine g_lv [some (.ref h0), some (.int p0), some (.int p1), some (.ref t0), some (.long 0), none, some (.int 0)] (lvLe.sm (lvLe.sm (lvLe.sm (lvLe.sm (lvLe.sm (lvLe.nn (lvLe.sm lvLe.nil))))))) ?_
  obtain ⟨v4, hv4, hR⟩ := opt_b hR
  refine k_X1_netSum_L6 l g C N_ p0 p1 jc hd sc pr pc F N_ 0 0 _ hv4 ?_
  refine g_lload C dX1_netSum_41 rfl 43 rfl ?_
  obtain rfl := Option.some.inj hR
  exact g_lret C hr hlocks hA (by first | (dsimp only; done) | rfl) (by first | (dsimp only; done) | rfl) dX1_netSum_43
theorem hd_X1_bestUse : yX1_bestUse.cls = RX1 ∧ yX1_bestUse.cls ≠ "java/lang/invoke/MethodHandle" ∧ yX1_bestUse.cls ≠ "java/lang/invoke/VarHandle" ∧ (parseMethodDescriptor yX1_bestUse.desc).map (fun d => d.parameters.length) = some 2 := by decide +kernel
def f_X1_bestUse_L14 (x1 : Int32) (pr : Int32) (F : Nat → Int64) (N_ : Nat) : Nat → Int32 → Int64 → Int32 → Option (Int32 × Int64 × Int32)
  | 0, _, _, _ => none
  | n_ + 1, x3, x4, x6 =>
    if 5 ≤ x6 then
      some (x3, x4, x6)
    else
      (f_X1_netSum pr F x6 x1 N_).bind fun v4 =>
      if (lg_cmp v4 x4) ≤ 0 then
        f_X1_bestUse_L14 x1 pr F N_ n_ x3 x4 (x6 + 1)
      else
        f_X1_bestUse_L14 x1 pr F N_ n_ x6 v4 (x6 + 1)
set_option maxRecDepth 100000 in
set_option maxHeartbeats 4000000 in
theorem k_X1_bestUse_L14 (l : Launch) (g : gE) {p : Program} {e : Env} {s : State} {m : MethodId} {args : Array Value} {below : List Frame} {meth : Method} {c : Code} {Q : State → Prop} {A : Nat → Prop} {h0 : Nat} {a1 : Nat} {a2 : Nat} {a3 : Nat} {a4 : Nat} {a5 : Nat} {t0 : Nat} {t1 : Nat}  (C : Cx p s m args c g A cX1_bestUse 9 wA_X1_bestUse RX1) (N_ : Nat) (x1 : Int32) (jc : Int32) (hd : Int32) (sc : Int32) (pr : Int32) (pc : Int32) (F : Nat → Int64) : ∀ (n_ : Nat) (x3 : Int32) (x4 : Int64) (x6 : Int32) (rv_ : Int32 × Int64 × Int32), f_X1_bestUse_L14 x1 pr F N_ n_ x3 x4 x6 = some rv_ → (Gm p l e (headSpec wA_X1_bestUse ({ frames := 3, cells := 0, slots := 0, locals := 72 } : Room)).room s m args below meth c Q g A 9 0 0 ([(h0, .inr (1, [.ref a1, .int jc, .int hd, .ref a2, .ref a3, .int sc, .ref a4, .int pr, .ref a5, .int pc])), (t0, .inr (2, [.ref t1])), (t1, .inl (g.2.1 1, 5, .inr (.inl F)))]) [some (.ref h0), some (.int x1), some (.ref t0), some (.int rv_.1), some (.long rv_.2.1), none, some (.int rv_.2.2), none, none] [] 51) → Gm p l e (headSpec wA_X1_bestUse ({ frames := 3, cells := 0, slots := 0, locals := 72 } : Room)).room s m args below meth c Q g A 9 0 0 ([(h0, .inr (1, [.ref a1, .int jc, .int hd, .ref a2, .ref a3, .int sc, .ref a4, .int pr, .ref a5, .int pc])), (t0, .inr (2, [.ref t1])), (t1, .inl (g.2.1 1, 5, .inr (.inl F)))]) [some (.ref h0), some (.int x1), some (.ref t0), some (.int x3), some (.long x4), none, some (.int x6), none, none] [] 14 := by
  intro n_
  induction n_ with
  | zero =>
    intro x3 x4 x6 rv_ hR
    simp [f_X1_bestUse_L14] at hR
  | succ n_ ih =>
    intro x3 x4 x6 rv_ hR hk
    rw [f_X1_bestUse_L14] at hR
    refine g_iload C dX1_bestUse_14 rfl 16 rfl ?_
    refine g_iconst C dX1_bestUse_16 5 ic_5 17 rfl ?_
    refine g_icmp_ge C dX1_bestUse_17 hR 51 20 (by decide) rfl (fun c_17 hR => ?_) (fun c_17 hR => ?_)
    · obtain rfl := Option.some.inj hR
      refine g_lv [some (.ref h0), some (.int x1), some (.ref t0), some (.int x3), some (.long x4), none, some (.int x6), none, none] (lvLe.sm (lvLe.sm (lvLe.sm (lvLe.sm (lvLe.sm (lvLe.nn (lvLe.sm (lvLe.nn (lvLe.nn lvLe.nil))))))))) ?_
      exact hk
    · refine g_aload_n C dX1_bestUse_20 rfl 21 rfl ?_
      refine g_iload C dX1_bestUse_21 rfl 23 rfl ?_
      refine g_iload_n C dX1_bestUse_23 rfl 24 rfl ?_
      refine g_aload_n C dX1_bestUse_24 rfl 25 rfl ?_
      obtain ⟨v4, hv4, hR⟩ := opt_b hR
      refine g_callLR C (rn_V C (k_X1_netSum l g h0 a1 a2 a3 a4 a5 t0 t1 jc hd sc pr pc F x6 x1 N_ v4 hv4) (cwV 3 C.1.2.2.2.2 (gdV wl_513 wl_550 wl_511 wl_512 wl_14) rfl rfl rfl hd_X1_netSum ⟨Nat.le_of_ble_eq_true rfl, Nat.le_of_ble_eq_true rfl⟩) 0 rfl rfl [0, 1, 2] rfl rfl rfl rfl (Nat.le_of_ble_eq_true rfl) ⟨Nat.zero_le _, Nat.zero_le _⟩ dX1_bestUse_25) 28 rfl ?_
      refine g_lstore C dX1_bestUse_28 [_, _, _, _, _, _, _, _, _] (Nat.le_of_ble_eq_true rfl) rfl rfl 30 rfl ?_
      refine g_lload C dX1_bestUse_30 rfl 32 rfl ?_
      refine g_lload C dX1_bestUse_32 rfl 34 rfl ?_
      refine g_lcmp C dX1_bestUse_34 35 rfl ?_
      refine g_if_le C dX1_bestUse_35 hR 45 38 (by decide) rfl (fun c_35 hR => ?_) (fun c_35 hR => ?_)
      · refine g_iinc C dX1_bestUse_45 rfl 1 ic_1 [_, _, _, _, _, _, _, _, _] (Nat.le_of_ble_eq_true rfl) rfl rfl 48 rfl ?_
        refine g_goto C dX1_bestUse_48 14 (by decide) ?_
        refine g_lv [some (.ref h0), some (.int x1), some (.ref t0), some (.int x3), some (.long x4), none, some (.int (x6 + 1)), none, none] (lvLe.sm (lvLe.sm (lvLe.sm (lvLe.sm (lvLe.sm (lvLe.nn (lvLe.sm (lvLe.nn (lvLe.nn lvLe.nil))))))))) ?_
        exact ih _ _ _ rv_ hR hk
      · refine g_lload C dX1_bestUse_38 rfl 40 rfl ?_
        refine g_lstore C dX1_bestUse_40 [_, _, _, _, _, _, _, _, _] (Nat.le_of_ble_eq_true rfl) rfl rfl 42 rfl ?_
        refine g_iload C dX1_bestUse_42 rfl 44 rfl ?_
        refine g_istore_n C dX1_bestUse_44 [_, _, _, _, _, _, _, _, _] (Nat.le_of_ble_eq_true rfl) rfl rfl 45 rfl ?_
        refine g_iinc C dX1_bestUse_45 rfl 1 ic_1 [_, _, _, _, _, _, _, _, _] (Nat.le_of_ble_eq_true rfl) rfl rfl 48 rfl ?_
        refine g_goto C dX1_bestUse_48 14 (by decide) ?_
        refine g_lv [some (.ref h0), some (.int x1), some (.ref t0), some (.int x6), some (.long v4), none, some (.int (x6 + 1)), none, none] (lvLe.sm (lvLe.sm (lvLe.sm (lvLe.sm (lvLe.sm (lvLe.nn (lvLe.sm (lvLe.nn (lvLe.nn lvLe.nil))))))))) ?_
        exact ih _ _ _ rv_ hR hk
def f_X1_bestUse (pr : Int32) (F : Nat → Int64) (p0 : Int32) (N_ : Nat) : Option (Int32) :=
  (f_X1_netSum pr F 0 p0 N_).bind fun v1 =>
  (f_X1_bestUse_L14 p0 pr F N_ N_ 0 v1 1).bind fun v5 =>
  some v5.1
set_option maxRecDepth 100000 in
set_option maxHeartbeats 4000000 in
theorem k_X1_bestUse (l : Launch) (g : gE) (h0 : Nat) (a1 : Nat) (a2 : Nat) (a3 : Nat) (a4 : Nat) (a5 : Nat) (t0 : Nat) (t1 : Nat) (jc : Int32) (hd : Int32) (sc : Int32) (pr : Int32) (pc : Int32) (F : Nat → Int64) (p0 : Int32) (N_ : Nat) (R_ : Int32) (hR : f_X1_bestUse pr F p0 N_ = some R_) : FnI l g yX1_bestUse wA_X1_bestUse { frames := 3, cells := 0, slots := 0, locals := 72 } [.ref h0, .int p0, .ref t0] ([(h0, .inr (1, [.ref a1, .int jc, .int hd, .ref a2, .ref a3, .int sc, .ref a4, .int pr, .ref a5, .int pc])), (t0, .inr (2, [.ref t1])), (t1, .inl (g.2.1 1, 5, .inr (.inl F)))]) R_ ([(h0, .inr (1, [.ref a1, .int jc, .int hd, .ref a2, .ref a3, .int sc, .ref a4, .int pr, .ref a5, .int pc])), (t0, .inr (2, [.ref t1])), (t1, .inl (g.2.1 1, 5, .inr (.inl F)))]) := by
  refine fEntry (As := [.ref h0, .int p0, .ref t0]) (maxL := 9) (ret := (some .int)) (by decide) rfl [some (.ref h0), some (.int p0), some (.ref t0), none, none, none, none, none, none] (Nat.le_of_ble_eq_true rfl) (lvInB.to (lvInB.sm (lvInB.sm (lvInB.sm (lvInB.nn (lvInB.nn (lvInB.nn (lvInB.nn (lvInB.nn (lvInB.nn lvInB.nil)))))))))) ?_
  intro p e s m below meth c A C hr hlocks hname hA
  have C : Cx p s m _ c g A cX1_bestUse 9 wA_X1_bestUse RX1 := C
  rw [f_X1_bestUse] at hR
  refine g_iconst C dX1_bestUse_0 0 ic_0 1 rfl ?_
  refine g_istore_n C dX1_bestUse_1 [_, _, _, _, _, _, _, _, _] (Nat.le_of_ble_eq_true rfl) rfl rfl 2 rfl ?_
  refine g_aload_n C dX1_bestUse_2 rfl 3 rfl ?_
  refine g_iconst C dX1_bestUse_3 0 ic_0 4 rfl ?_
  refine g_iload_n C dX1_bestUse_4 rfl 5 rfl ?_
  refine g_aload_n C dX1_bestUse_5 rfl 6 rfl ?_
  obtain ⟨v1, hv1, hR⟩ := opt_b hR
  refine g_callLR C (rn_V C (k_X1_netSum l g h0 a1 a2 a3 a4 a5 t0 t1 jc hd sc pr pc F 0 p0 N_ v1 hv1) (cwV 3 C.1.2.2.2.2 (gdV wl_513 wl_550 wl_511 wl_512 wl_14) rfl rfl rfl hd_X1_netSum ⟨Nat.le_of_ble_eq_true rfl, Nat.le_of_ble_eq_true rfl⟩) 0 rfl rfl [0, 1, 2] rfl rfl rfl rfl (Nat.le_of_ble_eq_true rfl) ⟨Nat.zero_le _, Nat.zero_le _⟩ dX1_bestUse_6) 9 rfl ?_
  refine g_lstore C dX1_bestUse_9 [_, _, _, _, _, _, _, _, _] (Nat.le_of_ble_eq_true rfl) rfl rfl 11 rfl ?_
  refine g_iconst C dX1_bestUse_11 1 ic_1 12 rfl ?_
  refine g_istore C dX1_bestUse_12 [_, _, _, _, _, _, _, _, _] (Nat.le_of_ble_eq_true rfl) rfl rfl 14 rfl ?_
  refine g_lv [some (.ref h0), some (.int p0), some (.ref t0), some (.int 0), some (.long v1), none, some (.int 1), none, none] (lvLe.sm (lvLe.sm (lvLe.sm (lvLe.sm (lvLe.sm (lvLe.nn (lvLe.sm (lvLe.nn (lvLe.nn lvLe.nil))))))))) ?_
  obtain ⟨v5, hv5, hR⟩ := opt_b hR
  refine k_X1_bestUse_L14 l g C N_ p0 jc hd sc pr pc F N_ 0 v1 1 _ hv5 ?_
  refine g_iload_n C dX1_bestUse_51 rfl 52 rfl ?_
  obtain rfl := Option.some.inj hR
  exact g_iret C hr hlocks hA (by first | (dsimp only; done) | rfl) (by first | (dsimp only; done) | rfl) dX1_bestUse_52
theorem hd_X1_bestSum : yX1_bestSum.cls = RX1 ∧ yX1_bestSum.cls ≠ "java/lang/invoke/MethodHandle" ∧ yX1_bestSum.cls ≠ "java/lang/invoke/VarHandle" ∧ (parseMethodDescriptor yX1_bestSum.desc).map (fun d => d.parameters.length) = some 2 := by decide +kernel
def f_X1_bestSum_L11 (x1 : Int32) (pr : Int32) (F : Nat → Int64) (N_ : Nat) : Nat → Int64 → Int32 → Option (Int64 × Int32)
  | 0, _, _ => none
  | n_ + 1, x3, x5 =>
    if 5 ≤ x5 then
      some (x3, x5)
    else
      (f_X1_netSum pr F x5 x1 N_).bind fun v4 =>
      f_X1_bestSum_L11 x1 pr F N_ n_ (if v4 < x3 then x3 else v4) (x5 + 1)
set_option maxRecDepth 100000 in
set_option maxHeartbeats 4000000 in
theorem k_X1_bestSum_L11 (l : Launch) (g : gE) {p : Program} {e : Env} {s : State} {m : MethodId} {args : Array Value} {below : List Frame} {meth : Method} {c : Code} {Q : State → Prop} {A : Nat → Prop} {h0 : Nat} {a1 : Nat} {a2 : Nat} {a3 : Nat} {a4 : Nat} {a5 : Nat} {t0 : Nat} {t1 : Nat}  (C : Cx p s m args c g A cX1_bestSum 6 wA_X1_bestSum RX1) (N_ : Nat) (x1 : Int32) (jc : Int32) (hd : Int32) (sc : Int32) (pr : Int32) (pc : Int32) (F : Nat → Int64) : ∀ (n_ : Nat) (x3 : Int64) (x5 : Int32) (rv_ : Int64 × Int32), f_X1_bestSum_L11 x1 pr F N_ n_ x3 x5 = some rv_ → (Gm p l e (headSpec wA_X1_bestSum ({ frames := 3, cells := 0, slots := 0, locals := 72 } : Room)).room s m args below meth c Q g A 6 0 0 ([(h0, .inr (1, [.ref a1, .int jc, .int hd, .ref a2, .ref a3, .int sc, .ref a4, .int pr, .ref a5, .int pc])), (t0, .inr (2, [.ref t1])), (t1, .inl (g.2.1 1, 5, .inr (.inl F)))]) [some (.ref h0), some (.int x1), some (.ref t0), some (.long rv_.1), none, some (.int rv_.2)] [] 36) → Gm p l e (headSpec wA_X1_bestSum ({ frames := 3, cells := 0, slots := 0, locals := 72 } : Room)).room s m args below meth c Q g A 6 0 0 ([(h0, .inr (1, [.ref a1, .int jc, .int hd, .ref a2, .ref a3, .int sc, .ref a4, .int pr, .ref a5, .int pc])), (t0, .inr (2, [.ref t1])), (t1, .inl (g.2.1 1, 5, .inr (.inl F)))]) [some (.ref h0), some (.int x1), some (.ref t0), some (.long x3), none, some (.int x5)] [] 11 := by
  intro n_
  induction n_ with
  | zero =>
    intro x3 x5 rv_ hR
    simp [f_X1_bestSum_L11] at hR
  | succ n_ ih =>
    intro x3 x5 rv_ hR hk
    rw [f_X1_bestSum_L11] at hR
    refine g_iload C dX1_bestSum_11 rfl 13 rfl ?_
    refine g_iconst C dX1_bestSum_13 5 ic_5 14 rfl ?_
    refine g_icmp_ge C dX1_bestSum_14 hR 36 17 (by decide) rfl (fun c_14 hR => ?_) (fun c_14 hR => ?_)
    · obtain rfl := Option.some.inj hR
      refine g_lv [some (.ref h0), some (.int x1), some (.ref t0), some (.long x3), none, some (.int x5)] (lvLe.sm (lvLe.sm (lvLe.sm (lvLe.sm (lvLe.nn (lvLe.sm lvLe.nil)))))) ?_
      exact hk
    · refine g_lload_n C dX1_bestSum_17 rfl 18 rfl ?_
      refine g_aload_n C dX1_bestSum_18 rfl 19 rfl ?_
      refine g_iload C dX1_bestSum_19 rfl 21 rfl ?_
      refine g_iload_n C dX1_bestSum_21 rfl 22 rfl ?_
      refine g_aload_n C dX1_bestSum_22 rfl 23 rfl ?_
      obtain ⟨v4, hv4, hR⟩ := opt_b hR
      refine g_callLR C (rn_V C (k_X1_netSum l g h0 a1 a2 a3 a4 a5 t0 t1 jc hd sc pr pc F x5 x1 N_ v4 hv4) (cwV 3 C.1.2.2.2.2 (gdV wl_513 wl_550 wl_511 wl_512 wl_14) rfl rfl rfl hd_X1_netSum ⟨Nat.le_of_ble_eq_true rfl, Nat.le_of_ble_eq_true rfl⟩) 0 rfl rfl [0, 1, 2] rfl rfl rfl rfl (Nat.le_of_ble_eq_true rfl) ⟨Nat.zero_le _, Nat.zero_le _⟩ dX1_bestSum_23) 26 rfl ?_
      refine g_maxL C (List.mem_cons_of_mem _ wl_594) (List.mem_cons_of_mem _ wl_595) (List.mem_cons_of_mem _ wl_118) (List.mem_cons_of_mem _ wl_596) (Nat.le_of_ble_eq_true rfl) (Nat.le_of_ble_eq_true rfl) ⟨Nat.zero_le _, Nat.zero_le _⟩ dX1_bestSum_26 29 rfl ?_
      refine g_lstore_n C dX1_bestSum_29 [_, _, _, _, _, _] (Nat.le_of_ble_eq_true rfl) rfl rfl 30 rfl ?_
      refine g_iinc C dX1_bestSum_30 rfl 1 ic_1 [_, _, _, _, _, _] (Nat.le_of_ble_eq_true rfl) rfl rfl 33 rfl ?_
      refine g_goto C dX1_bestSum_33 11 (by decide) ?_
      refine g_lv [some (.ref h0), some (.int x1), some (.ref t0), some (.long (if v4 < x3 then x3 else v4)), none, some (.int (x5 + 1))] (lvLe.sm (lvLe.sm (lvLe.sm (lvLe.sm (lvLe.nn (lvLe.sm lvLe.nil)))))) ?_
      exact ih _ _ rv_ hR hk
def f_X1_bestSum (pr : Int32) (F : Nat → Int64) (p0 : Int32) (N_ : Nat) : Option (Int64) :=
  (f_X1_netSum pr F 0 p0 N_).bind fun v1 =>
  (f_X1_bestSum_L11 p0 pr F N_ N_ v1 1).bind fun v5 =>
  some v5.1
set_option maxRecDepth 100000 in
set_option maxHeartbeats 4000000 in
theorem k_X1_bestSum (l : Launch) (g : gE) (h0 : Nat) (a1 : Nat) (a2 : Nat) (a3 : Nat) (a4 : Nat) (a5 : Nat) (t0 : Nat) (t1 : Nat) (jc : Int32) (hd : Int32) (sc : Int32) (pr : Int32) (pc : Int32) (F : Nat → Int64) (p0 : Int32) (N_ : Nat) (R_ : Int64) (hR : f_X1_bestSum pr F p0 N_ = some R_) : FnL l g yX1_bestSum wA_X1_bestSum { frames := 3, cells := 0, slots := 0, locals := 72 } [.ref h0, .int p0, .ref t0] ([(h0, .inr (1, [.ref a1, .int jc, .int hd, .ref a2, .ref a3, .int sc, .ref a4, .int pr, .ref a5, .int pc])), (t0, .inr (2, [.ref t1])), (t1, .inl (g.2.1 1, 5, .inr (.inl F)))]) R_ ([(h0, .inr (1, [.ref a1, .int jc, .int hd, .ref a2, .ref a3, .int sc, .ref a4, .int pr, .ref a5, .int pc])), (t0, .inr (2, [.ref t1])), (t1, .inl (g.2.1 1, 5, .inr (.inl F)))]) := by
  refine fEntry (As := [.ref h0, .int p0, .ref t0]) (maxL := 6) (ret := (some .long)) (by decide) rfl [some (.ref h0), some (.int p0), some (.ref t0), none, none, none] (Nat.le_of_ble_eq_true rfl) (lvInB.to (lvInB.sm (lvInB.sm (lvInB.sm (lvInB.nn (lvInB.nn (lvInB.nn lvInB.nil))))))) ?_
  intro p e s m below meth c A C hr hlocks hname hA
  have C : Cx p s m _ c g A cX1_bestSum 6 wA_X1_bestSum RX1 := C
  rw [f_X1_bestSum] at hR
  refine g_aload_n C dX1_bestSum_0 rfl 1 rfl ?_
  refine g_iconst C dX1_bestSum_1 0 ic_0 2 rfl ?_
  refine g_iload_n C dX1_bestSum_2 rfl 3 rfl ?_
  refine g_aload_n C dX1_bestSum_3 rfl 4 rfl ?_
  obtain ⟨v1, hv1, hR⟩ := opt_b hR
  refine g_callLR C (rn_V C (k_X1_netSum l g h0 a1 a2 a3 a4 a5 t0 t1 jc hd sc pr pc F 0 p0 N_ v1 hv1) (cwV 3 C.1.2.2.2.2 (gdV wl_513 wl_550 wl_511 wl_512 wl_14) rfl rfl rfl hd_X1_netSum ⟨Nat.le_of_ble_eq_true rfl, Nat.le_of_ble_eq_true rfl⟩) 0 rfl rfl [0, 1, 2] rfl rfl rfl rfl (Nat.le_of_ble_eq_true rfl) ⟨Nat.zero_le _, Nat.zero_le _⟩ dX1_bestSum_4) 7 rfl ?_
  refine g_lstore_n C dX1_bestSum_7 [_, _, _, _, _, _] (Nat.le_of_ble_eq_true rfl) rfl rfl 8 rfl ?_
  refine g_iconst C dX1_bestSum_8 1 ic_1 9 rfl ?_
  refine g_istore C dX1_bestSum_9 [_, _, _, _, _, _] (Nat.le_of_ble_eq_true rfl) rfl rfl 11 rfl ?_
  refine g_lv [some (.ref h0), some (.int p0), some (.ref t0), some (.long v1), none, some (.int 1)] (lvLe.sm (lvLe.sm (lvLe.sm (lvLe.sm (lvLe.nn (lvLe.sm lvLe.nil)))))) ?_
  obtain ⟨v5, hv5, hR⟩ := opt_b hR
  refine k_X1_bestSum_L11 l g C N_ p0 jc hd sc pr pc F N_ v1 1 _ hv5 ?_
  refine g_lload_n C dX1_bestSum_36 rfl 37 rfl ?_
  obtain rfl := Option.some.inj hR
  exact g_lret C hr hlocks hA (by first | (dsimp only; done) | rfl) (by first | (dsimp only; done) | rfl) dX1_bestSum_37
theorem hd_X1_allCups : yX1_allCups.cls = RX1 ∧ yX1_allCups.cls ≠ "java/lang/invoke/MethodHandle" ∧ yX1_allCups.cls ≠ "java/lang/invoke/VarHandle" ∧ (parseMethodDescriptor yX1_allCups.desc).map (fun d => d.parameters.length) = some 0 := by decide +kernel
def f_X1_allCups_L4 (K : Nat → Nat → Int32) (N_ : Nat) : Nat → Int32 → Int32 → Option (Int32 × Int32)
  | 0, _, _ => none
  | n_ + 1, x1, x2 =>
    if (K 0 0) ≤ x2 then
      some (x1, x2)
    else
      if jIn (K 0 0) x2 then
        f_X1_allCups_L4 K N_ n_ (x1 + (K 7 (Int32.toNatClampNeg x2))) (x2 + 1)
      else
        f_X1_allCups_L4 K N_ n_ (x1 + 0) (x2 + 1)
set_option maxRecDepth 100000 in
set_option maxHeartbeats 4000000 in
theorem k_X1_allCups_L4 (l : Launch) (g : gE) {p : Program} {e : Env} {s : State} {m : MethodId} {args : Array Value} {below : List Frame} {meth : Method} {c : Code} {Q : State → Prop} {A : Nat → Prop} {b : Nat → Nat}  (C : Cx p s m args c g A cX1_allCups 4 wA_X1_allCups RX1) (N_ : Nat) (y : Nat → Nat) (K : Nat → Nat → Int32) : ∀ (n_ : Nat) (x1 : Int32) (x2 : Int32) (rv_ : Int32 × Int32), f_X1_allCups_L4 K N_ n_ x1 x2 = some rv_ → (Gm p l e (headSpec wA_X1_allCups ({ frames := 2, cells := 0, slots := 0, locals := 42 } : Room)).room s m args below meth c Q g A 4 0 0 (wK g b y K) [some (.ref (b 0)), some (.int rv_.1), some (.int rv_.2), none] [] 39) → Gm p l e (headSpec wA_X1_allCups ({ frames := 2, cells := 0, slots := 0, locals := 42 } : Room)).room s m args below meth c Q g A 4 0 0 (wK g b y K) [some (.ref (b 0)), some (.int x1), some (.int x2), none] [] 4 := by
  intro n_
  induction n_ with
  | zero =>
    intro x1 x2 rv_ hR
    simp [f_X1_allCups_L4] at hR
  | succ n_ ih =>
    intro x1 x2 rv_ hR hk
    rw [f_X1_allCups_L4] at hR
    refine g_iload_n C dX1_allCups_4 rfl 5 rfl ?_
    refine g_aload_n C dX1_allCups_5 rfl 6 rfl ?_
    refine g_get (v := .int (K 0 0)) C (hiC hiA_1) 0 rfl rfl 1 (by decide) (List.mem_cons_of_mem _ wl_41) rfl rfl dX1_allCups_6 9 rfl ?_
    refine g_icmp_ge C dX1_allCups_9 hR 39 12 (by decide) rfl (fun c_9 hR => ?_) (fun c_9 hR => ?_)
    · obtain rfl := Option.some.inj hR
      refine g_lv [some (.ref (b 0)), some (.int x1), some (.int x2), none] (lvLe.sm (lvLe.sm (lvLe.sm (lvLe.nn lvLe.nil)))) ?_
      exact hk
    · refine g_aload_n C dX1_allCups_12 rfl 13 rfl ?_
      refine g_iload_n C dX1_allCups_13 rfl 14 rfl ?_
      refine g_callQR C (rn_V C (k_X1_jugAtq l g (b 0) (b 1) (b 2) (b 3) (b 4) (b 5) (K 0 0) (K 0 1) (K 0 2) (K 0 3) (K 0 4) y x2) (cwV 1 C.1.2.2.2.2 (gdV wl_143 wl_140 wl_141 wl_142 wl_14) rfl rfl rfl hd_X1_jugAt ⟨Nat.le_of_ble_eq_true rfl, Nat.le_of_ble_eq_true rfl⟩) 0 rfl rfl [0, 1] rfl rfl rfl rfl (Nat.le_of_ble_eq_true rfl) ⟨Nat.zero_le _, Nat.zero_le _⟩ dX1_allCups_14) hR 17 rfl (fun c_14 hR => ?_) (fun c_14 hR => ?_)
      · have hj_14 : (Int32.toNatClampNeg x2) < 5 := jIn_lt c_14
        refine g_astore_n C dX1_allCups_17 [_, _, _, _] (Nat.le_of_ble_eq_true rfl) rfl rfl 18 rfl ?_
        refine g_iload_n C dX1_allCups_18 rfl 19 rfl ?_
        refine g_aload_n C dX1_allCups_19 rfl 20 rfl ?_
        refine g_nonnull C dX1_allCups_20 27 (by decide) ?_
        refine g_aload_n C dX1_allCups_27 rfl 28 rfl ?_
        refine g_getN (v := .int (K 7 (Int32.toNatClampNeg x2))) C (hiC hiA_0) (6 + (Int32.toNatClampNeg x2)) (wK_jug hj_14) rfl 2 (by decide) (List.mem_of_getElem? (i := 16) rfl) rfl rfl dX1_allCups_28 31 rfl ?_
        refine g_iadd C dX1_allCups_31 32 rfl ?_
        refine g_istore_n C dX1_allCups_32 [_, _, _, _] (Nat.le_of_ble_eq_true rfl) rfl rfl 33 rfl ?_
        refine g_iinc C dX1_allCups_33 rfl 1 ic_1 [_, _, _, _] (Nat.le_of_ble_eq_true rfl) rfl rfl 36 rfl ?_
        refine g_goto C dX1_allCups_36 4 (by decide) ?_
        refine g_lv [some (.ref (b 0)), some (.int (x1 + (K 7 (Int32.toNatClampNeg x2)))), some (.int (x2 + 1)), none] (lvLe.sm (lvLe.sm (lvLe.sm (lvLe.nn lvLe.nil)))) ?_
        exact ih _ _ rv_ hR hk
      · refine g_astore_nN C dX1_allCups_17 [_, _, _, _] (Nat.le_of_ble_eq_true rfl) rfl rfl 18 rfl ?_
        refine g_iload_n C dX1_allCups_18 rfl 19 rfl ?_
        refine g_aload_nN C dX1_allCups_19 rfl 20 rfl ?_
        refine g_nonnullN C dX1_allCups_20 23 rfl ?_
        refine g_iconst C dX1_allCups_23 0 ic_0 24 rfl ?_
        refine g_goto C dX1_allCups_24 31 (by decide) ?_
        refine g_iadd C dX1_allCups_31 32 rfl ?_
        refine g_istore_n C dX1_allCups_32 [_, _, _, _] (Nat.le_of_ble_eq_true rfl) rfl rfl 33 rfl ?_
        refine g_iinc C dX1_allCups_33 rfl 1 ic_1 [_, _, _, _] (Nat.le_of_ble_eq_true rfl) rfl rfl 36 rfl ?_
        refine g_goto C dX1_allCups_36 4 (by decide) ?_
        refine g_lv [some (.ref (b 0)), some (.int (x1 + 0)), some (.int (x2 + 1)), none] (lvLe.sm (lvLe.sm (lvLe.sm (lvLe.nn lvLe.nil)))) ?_
        exact ih _ _ rv_ hR hk
def f_X1_allCups (K : Nat → Nat → Int32) (N_ : Nat) : Option (Int32) :=
  (f_X1_allCups_L4 K N_ N_ 0 0).bind fun v1 =>
  some v1.1
set_option maxRecDepth 100000 in
set_option maxHeartbeats 4000000 in
theorem k_X1_allCups (l : Launch) (g : gE) (b : Nat → Nat) (y : Nat → Nat) (K : Nat → Nat → Int32) (N_ : Nat) (R_ : Int32) (hR : f_X1_allCups K N_ = some R_) : FnI l g yX1_allCups wA_X1_allCups { frames := 2, cells := 0, slots := 0, locals := 42 } [.ref (b 0)] (wK g b y K) R_ (wK g b y K) := by
  refine fEntry (As := [.ref (b 0)]) (maxL := 4) (ret := (some .int)) (by decide) rfl [some (.ref (b 0)), none, none, none] (Nat.le_of_ble_eq_true rfl) (lvInB.to (lvInB.sm (lvInB.nn (lvInB.nn (lvInB.nn lvInB.nil))))) ?_
  intro p e s m below meth c A C hr hlocks hname hA
  have C : Cx p s m _ c g A cX1_allCups 4 wA_X1_allCups RX1 := C
  rw [f_X1_allCups] at hR
  refine g_iconst C dX1_allCups_0 0 ic_0 1 rfl ?_
  refine g_istore_n C dX1_allCups_1 [_, _, _, _] (Nat.le_of_ble_eq_true rfl) rfl rfl 2 rfl ?_
  refine g_iconst C dX1_allCups_2 0 ic_0 3 rfl ?_
  refine g_istore_n C dX1_allCups_3 [_, _, _, _] (Nat.le_of_ble_eq_true rfl) rfl rfl 4 rfl ?_
  refine g_lv [some (.ref (b 0)), some (.int 0), some (.int 0), none] (lvLe.sm (lvLe.sm (lvLe.sm (lvLe.nn lvLe.nil)))) ?_
  obtain ⟨v1, hv1, hR⟩ := opt_b hR
  refine k_X1_allCups_L4 l g C N_ y K N_ 0 0 _ hv1 ?_
  refine g_iload_n C dX1_allCups_39 rfl 40 rfl ?_
  obtain rfl := Option.some.inj hR
  exact g_iret C hr hlocks hA (by first | (dsimp only; done) | rfl) (by first | (dsimp only; done) | rfl) dX1_allCups_40
theorem hd_X1_allPoints : yX1_allPoints.cls = RX1 ∧ yX1_allPoints.cls ≠ "java/lang/invoke/MethodHandle" ∧ yX1_allPoints.cls ≠ "java/lang/invoke/VarHandle" ∧ (parseMethodDescriptor yX1_allPoints.desc).map (fun d => d.parameters.length) = some 0 := by decide +kernel
def f_X1_allPoints_L4 (K : Nat → Nat → Int32) (N_ : Nat) : Nat → Int32 → Int32 → Option (Int32 × Int32)
  | 0, _, _ => none
  | n_ + 1, x1, x2 =>
    if (K 0 0) ≤ x2 then
      some (x1, x2)
    else
      if jIn (K 0 0) x2 then
        f_X1_allPoints_L4 K N_ n_ (x1 + (K 8 (Int32.toNatClampNeg x2))) (x2 + 1)
      else
        f_X1_allPoints_L4 K N_ n_ (x1 + 0) (x2 + 1)
set_option maxRecDepth 100000 in
set_option maxHeartbeats 4000000 in
theorem k_X1_allPoints_L4 (l : Launch) (g : gE) {p : Program} {e : Env} {s : State} {m : MethodId} {args : Array Value} {below : List Frame} {meth : Method} {c : Code} {Q : State → Prop} {A : Nat → Prop} {b : Nat → Nat}  (C : Cx p s m args c g A cX1_allPoints 4 wA_X1_allPoints RX1) (N_ : Nat) (y : Nat → Nat) (K : Nat → Nat → Int32) : ∀ (n_ : Nat) (x1 : Int32) (x2 : Int32) (rv_ : Int32 × Int32), f_X1_allPoints_L4 K N_ n_ x1 x2 = some rv_ → (Gm p l e (headSpec wA_X1_allPoints ({ frames := 2, cells := 0, slots := 0, locals := 42 } : Room)).room s m args below meth c Q g A 4 0 0 (wK g b y K) [some (.ref (b 0)), some (.int rv_.1), some (.int rv_.2), none] [] 39) → Gm p l e (headSpec wA_X1_allPoints ({ frames := 2, cells := 0, slots := 0, locals := 42 } : Room)).room s m args below meth c Q g A 4 0 0 (wK g b y K) [some (.ref (b 0)), some (.int x1), some (.int x2), none] [] 4 := by
  intro n_
  induction n_ with
  | zero =>
    intro x1 x2 rv_ hR
    simp [f_X1_allPoints_L4] at hR
  | succ n_ ih =>
    intro x1 x2 rv_ hR hk
    rw [f_X1_allPoints_L4] at hR
    refine g_iload_n C dX1_allPoints_4 rfl 5 rfl ?_
    refine g_aload_n C dX1_allPoints_5 rfl 6 rfl ?_
    refine g_get (v := .int (K 0 0)) C (hiC hiA_1) 0 rfl rfl 1 (by decide) (List.mem_cons_of_mem _ wl_41) rfl rfl dX1_allPoints_6 9 rfl ?_
    refine g_icmp_ge C dX1_allPoints_9 hR 39 12 (by decide) rfl (fun c_9 hR => ?_) (fun c_9 hR => ?_)
    · obtain rfl := Option.some.inj hR
      refine g_lv [some (.ref (b 0)), some (.int x1), some (.int x2), none] (lvLe.sm (lvLe.sm (lvLe.sm (lvLe.nn lvLe.nil)))) ?_
      exact hk
    · refine g_aload_n C dX1_allPoints_12 rfl 13 rfl ?_
      refine g_iload_n C dX1_allPoints_13 rfl 14 rfl ?_
      refine g_callQR C (rn_V C (k_X1_jugAtq l g (b 0) (b 1) (b 2) (b 3) (b 4) (b 5) (K 0 0) (K 0 1) (K 0 2) (K 0 3) (K 0 4) y x2) (cwV 1 C.1.2.2.2.2 (gdV wl_143 wl_140 wl_141 wl_142 wl_14) rfl rfl rfl hd_X1_jugAt ⟨Nat.le_of_ble_eq_true rfl, Nat.le_of_ble_eq_true rfl⟩) 0 rfl rfl [0, 1] rfl rfl rfl rfl (Nat.le_of_ble_eq_true rfl) ⟨Nat.zero_le _, Nat.zero_le _⟩ dX1_allPoints_14) hR 17 rfl (fun c_14 hR => ?_) (fun c_14 hR => ?_)
      · have hj_14 : (Int32.toNatClampNeg x2) < 5 := jIn_lt c_14
        refine g_astore_n C dX1_allPoints_17 [_, _, _, _] (Nat.le_of_ble_eq_true rfl) rfl rfl 18 rfl ?_
        refine g_iload_n C dX1_allPoints_18 rfl 19 rfl ?_
        refine g_aload_n C dX1_allPoints_19 rfl 20 rfl ?_
        refine g_nonnull C dX1_allPoints_20 27 (by decide) ?_
        refine g_aload_n C dX1_allPoints_27 rfl 28 rfl ?_
        refine g_getN (v := .int (K 8 (Int32.toNatClampNeg x2))) C (hiC hiA_0) (6 + (Int32.toNatClampNeg x2)) (wK_jug hj_14) rfl 3 (by decide) (List.mem_of_getElem? (i := 17) rfl) rfl rfl dX1_allPoints_28 31 rfl ?_
        refine g_iadd C dX1_allPoints_31 32 rfl ?_
        refine g_istore_n C dX1_allPoints_32 [_, _, _, _] (Nat.le_of_ble_eq_true rfl) rfl rfl 33 rfl ?_
        refine g_iinc C dX1_allPoints_33 rfl 1 ic_1 [_, _, _, _] (Nat.le_of_ble_eq_true rfl) rfl rfl 36 rfl ?_
        refine g_goto C dX1_allPoints_36 4 (by decide) ?_
        refine g_lv [some (.ref (b 0)), some (.int (x1 + (K 8 (Int32.toNatClampNeg x2)))), some (.int (x2 + 1)), none] (lvLe.sm (lvLe.sm (lvLe.sm (lvLe.nn lvLe.nil)))) ?_
        exact ih _ _ rv_ hR hk
      · refine g_astore_nN C dX1_allPoints_17 [_, _, _, _] (Nat.le_of_ble_eq_true rfl) rfl rfl 18 rfl ?_
        refine g_iload_n C dX1_allPoints_18 rfl 19 rfl ?_
        refine g_aload_nN C dX1_allPoints_19 rfl 20 rfl ?_
        refine g_nonnullN C dX1_allPoints_20 23 rfl ?_
        refine g_iconst C dX1_allPoints_23 0 ic_0 24 rfl ?_
        refine g_goto C dX1_allPoints_24 31 (by decide) ?_
        refine g_iadd C dX1_allPoints_31 32 rfl ?_
        refine g_istore_n C dX1_allPoints_32 [_, _, _, _] (Nat.le_of_ble_eq_true rfl) rfl rfl 33 rfl ?_
        refine g_iinc C dX1_allPoints_33 rfl 1 ic_1 [_, _, _, _] (Nat.le_of_ble_eq_true rfl) rfl rfl 36 rfl ?_
        refine g_goto C dX1_allPoints_36 4 (by decide) ?_
        refine g_lv [some (.ref (b 0)), some (.int (x1 + 0)), some (.int (x2 + 1)), none] (lvLe.sm (lvLe.sm (lvLe.sm (lvLe.nn lvLe.nil)))) ?_
        exact ih _ _ rv_ hR hk
def f_X1_allPoints (K : Nat → Nat → Int32) (N_ : Nat) : Option (Int32) :=
  (f_X1_allPoints_L4 K N_ N_ 0 0).bind fun v1 =>
  some v1.1
set_option maxRecDepth 100000 in
set_option maxHeartbeats 4000000 in
theorem k_X1_allPoints (l : Launch) (g : gE) (b : Nat → Nat) (y : Nat → Nat) (K : Nat → Nat → Int32) (N_ : Nat) (R_ : Int32) (hR : f_X1_allPoints K N_ = some R_) : FnI l g yX1_allPoints wA_X1_allPoints { frames := 2, cells := 0, slots := 0, locals := 42 } [.ref (b 0)] (wK g b y K) R_ (wK g b y K) := by
  refine fEntry (As := [.ref (b 0)]) (maxL := 4) (ret := (some .int)) (by decide) rfl [some (.ref (b 0)), none, none, none] (Nat.le_of_ble_eq_true rfl) (lvInB.to (lvInB.sm (lvInB.nn (lvInB.nn (lvInB.nn lvInB.nil))))) ?_
  intro p e s m below meth c A C hr hlocks hname hA
  have C : Cx p s m _ c g A cX1_allPoints 4 wA_X1_allPoints RX1 := C
  rw [f_X1_allPoints] at hR
  refine g_iconst C dX1_allPoints_0 0 ic_0 1 rfl ?_
  refine g_istore_n C dX1_allPoints_1 [_, _, _, _] (Nat.le_of_ble_eq_true rfl) rfl rfl 2 rfl ?_
  refine g_iconst C dX1_allPoints_2 0 ic_0 3 rfl ?_
  refine g_istore_n C dX1_allPoints_3 [_, _, _, _] (Nat.le_of_ble_eq_true rfl) rfl rfl 4 rfl ?_
  refine g_lv [some (.ref (b 0)), some (.int 0), some (.int 0), none] (lvLe.sm (lvLe.sm (lvLe.sm (lvLe.nn lvLe.nil)))) ?_
  obtain ⟨v1, hv1, hR⟩ := opt_b hR
  refine k_X1_allPoints_L4 l g C N_ y K N_ 0 0 _ hv1 ?_
  refine g_iload_n C dX1_allPoints_39 rfl 40 rfl ?_
  obtain rfl := Option.some.inj hR
  exact g_iret C hr hlocks hA (by first | (dsimp only; done) | rfl) (by first | (dsimp only; done) | rfl) dX1_allPoints_40
theorem hd_X1_standInCold : yX1_standInCold.cls = RX1 ∧ yX1_standInCold.cls ≠ "java/lang/invoke/MethodHandle" ∧ yX1_standInCold.cls ≠ "java/lang/invoke/VarHandle" ∧ (parseMethodDescriptor yX1_standInCold.desc).map (fun d => d.parameters.length) = some 1 := by decide +kernel
def f_X1_standInCold_L2 (x1 : Int32) (N_ : Nat) : Nat → Int32 → (Nat → Nat → Int32) → Option (Int32 × (Nat → Nat → Int32))
  | 0, _, _ => none
  | n_ + 1, x2, K =>
    if (K 0 0) ≤ x2 then
      some (x2, K)
    else
      if jIn (K 0 0) x2 then
        f_X1_standInCold_L2 x1 N_ n_ (x2 + 1) (kS K 8 (upd (K 8) (Int32.toNatClampNeg x2) (f_X0_gain (K 8 (Int32.toNatClampNeg x2)) (x1 * (f_X0_coldPoints (K 5 (Int32.toNatClampNeg x2)))))))
      else
        f_X1_standInCold_L2 x1 N_ n_ (x2 + 1) K
set_option maxRecDepth 100000 in
set_option maxHeartbeats 4000000 in
theorem k_X1_standInCold_L2 (l : Launch) (g : gE) {p : Program} {e : Env} {s : State} {m : MethodId} {args : Array Value} {below : List Frame} {meth : Method} {c : Code} {Q : State → Prop} {A : Nat → Prop} {b : Nat → Nat}  (C : Cx p s m args c g A cX1_standInCold 4 wA_X1_standInCold RX1) (N_ : Nat) (x1 : Int32) (y : Nat → Nat) : ∀ (n_ : Nat) (x2 : Int32) (K : Nat → Nat → Int32) (rv_ : Int32 × (Nat → Nat → Int32)), f_X1_standInCold_L2 x1 N_ n_ x2 K = some rv_ → (Gm p l e (headSpec wA_X1_standInCold ({ frames := 2, cells := 0, slots := 0, locals := 42 } : Room)).room s m args below meth c Q g A 4 0 0 (wK g b y rv_.2) [some (.ref (b 0)), some (.int x1), some (.int rv_.1), none] [] 36) → Gm p l e (headSpec wA_X1_standInCold ({ frames := 2, cells := 0, slots := 0, locals := 42 } : Room)).room s m args below meth c Q g A 4 0 0 (wK g b y K) [some (.ref (b 0)), some (.int x1), some (.int x2), none] [] 2 := by
  intro n_
  induction n_ with
  | zero =>
    intro x2 K rv_ hR
    simp [f_X1_standInCold_L2] at hR
  | succ n_ ih =>
    intro x2 K rv_ hR hk
    rw [f_X1_standInCold_L2] at hR
    refine g_iload_n C dX1_standInCold_2 rfl 3 rfl ?_
    refine g_aload_n C dX1_standInCold_3 rfl 4 rfl ?_
    refine g_get (v := .int (K 0 0)) C (hiC hiA_1) 0 rfl rfl 1 (by decide) (List.mem_cons_of_mem _ wl_41) rfl rfl dX1_standInCold_4 7 rfl ?_
    refine g_icmp_ge C dX1_standInCold_7 hR 36 10 (by decide) rfl (fun c_7 hR => ?_) (fun c_7 hR => ?_)
    · obtain rfl := Option.some.inj hR
      refine g_lv [some (.ref (b 0)), some (.int x1), some (.int x2), none] (lvLe.sm (lvLe.sm (lvLe.sm (lvLe.nn lvLe.nil)))) ?_
      exact hk
    · refine g_aload_n C dX1_standInCold_10 rfl 11 rfl ?_
      refine g_iload_n C dX1_standInCold_11 rfl 12 rfl ?_
      refine g_callQR C (rn_V C (k_X1_jugAtq l g (b 0) (b 1) (b 2) (b 3) (b 4) (b 5) (K 0 0) (K 0 1) (K 0 2) (K 0 3) (K 0 4) y x2) (cwV 1 C.1.2.2.2.2 (gdV wl_143 wl_140 wl_141 wl_142 wl_14) rfl rfl rfl hd_X1_jugAt ⟨Nat.le_of_ble_eq_true rfl, Nat.le_of_ble_eq_true rfl⟩) 0 rfl rfl [0, 1] rfl rfl rfl rfl (Nat.le_of_ble_eq_true rfl) ⟨Nat.zero_le _, Nat.zero_le _⟩ dX1_standInCold_12) hR 15 rfl (fun c_12 hR => ?_) (fun c_12 hR => ?_)
      · have hj_12 : (Int32.toNatClampNeg x2) < 5 := jIn_lt c_12
        refine g_astore_n C dX1_standInCold_15 [_, _, _, _] (Nat.le_of_ble_eq_true rfl) rfl rfl 16 rfl ?_
        refine g_aload_n C dX1_standInCold_16 rfl 17 rfl ?_
        refine g_ifnull C dX1_standInCold_17 20 rfl ?_
        refine g_aload_n C dX1_standInCold_20 rfl 21 rfl ?_
        refine g_iload_n C dX1_standInCold_21 rfl 22 rfl ?_
        refine g_aload_n C dX1_standInCold_22 rfl 23 rfl ?_
        refine g_callIR C (rn_VN C (k_X0_coldPoints l g (y (Int32.toNatClampNeg x2)) (K 5 (Int32.toNatClampNeg x2)) (K 6 (Int32.toNatClampNeg x2)) (K 7 (Int32.toNatClampNeg x2)) (K 8 (Int32.toNatClampNeg x2))) ⟨va_cnB 0 C.1.2.2.2.2 (gdA wl_174) rfl rfl rfl (nst C (List.mem_of_getElem? (i := 41) rfl)) (C.1.2.2.2.2 _ (List.mem_cons_of_mem _ wl_27)) hd_X0_coldPoints.2 ⟨Nat.le_of_ble_eq_true rfl, Nat.le_of_ble_eq_true rfl⟩, C.1.2.2.2.2 _ (List.mem_cons_of_mem _ wl_172), C.1.2.2.2.2 _ (List.mem_cons_of_mem _ wl_173)⟩ (6 + (Int32.toNatClampNeg x2)) (wK_jug hj_12) rfl [6 + (Int32.toNatClampNeg x2)] (hC_c (wK_jug hj_12) hC_n) nd_1 rfl rfl (Nat.le_of_ble_eq_true rfl) ⟨Nat.zero_le _, Nat.zero_le _⟩ dX1_standInCold_23) 26 rfl ?_
        refine g_imul C dX1_standInCold_26 27 rfl ?_
        refine g_callV C (rn_VN C (k_X0_gain l g (y (Int32.toNatClampNeg x2)) (K 5 (Int32.toNatClampNeg x2)) (K 6 (Int32.toNatClampNeg x2)) (K 7 (Int32.toNatClampNeg x2)) (K 8 (Int32.toNatClampNeg x2)) (x1 * (f_X0_coldPoints (K 5 (Int32.toNatClampNeg x2))))) ⟨va_cnB 1 C.1.2.2.2.2 (gdA wl_177) rfl rfl rfl (nst C (List.mem_of_getElem? (i := 42) rfl)) (C.1.2.2.2.2 _ (List.mem_cons_of_mem _ wl_27)) hd_X0_gain.2 ⟨Nat.le_of_ble_eq_true rfl, Nat.le_of_ble_eq_true rfl⟩, C.1.2.2.2.2 _ (List.mem_cons_of_mem _ wl_175), C.1.2.2.2.2 _ (List.mem_cons_of_mem _ wl_176)⟩ (6 + (Int32.toNatClampNeg x2)) (wK_jug hj_12) rfl [6 + (Int32.toNatClampNeg x2)] (hC_c (wK_jug hj_12) hC_n) nd_1 rfl rfl (Nat.le_of_ble_eq_true rfl) ⟨Nat.zero_le _, Nat.zero_le _⟩ dX1_standInCold_27) (wK g b y (kS K 8 (upd (K 8) (Int32.toNatClampNeg x2) (f_X0_gain (K 8 (Int32.toNatClampNeg x2)) (x1 * (f_X0_coldPoints (K 5 (Int32.toNatClampNeg x2)))))))) (wK_j3 hj_12) rfl 30 rfl ?_
        refine g_iinc C dX1_standInCold_30 rfl 1 ic_1 [_, _, _, _] (Nat.le_of_ble_eq_true rfl) rfl rfl 33 rfl ?_
        refine g_goto C dX1_standInCold_33 2 (by decide) ?_
        refine g_lv [some (.ref (b 0)), some (.int x1), some (.int (x2 + 1)), none] (lvLe.sm (lvLe.sm (lvLe.sm (lvLe.nn lvLe.nil)))) ?_
        exact ih _ _ rv_ hR hk
      · refine g_astore_nN C dX1_standInCold_15 [_, _, _, _] (Nat.le_of_ble_eq_true rfl) rfl rfl 16 rfl ?_
        refine g_aload_nN C dX1_standInCold_16 rfl 17 rfl ?_
        refine g_ifnullN C dX1_standInCold_17 30 (by decide) ?_
        refine g_iinc C dX1_standInCold_30 rfl 1 ic_1 [_, _, _, _] (Nat.le_of_ble_eq_true rfl) rfl rfl 33 rfl ?_
        refine g_goto C dX1_standInCold_33 2 (by decide) ?_
        refine g_lv [some (.ref (b 0)), some (.int x1), some (.int (x2 + 1)), none] (lvLe.sm (lvLe.sm (lvLe.sm (lvLe.nn lvLe.nil)))) ?_
        exact ih _ _ rv_ hR hk
def f_X1_standInCold (K : Nat → Nat → Int32) (p0 : Int32) (N_ : Nat) : Option ((Nat → Nat → Int32)) :=
  (f_X1_standInCold_L2 p0 N_ N_ 0 K).bind fun v1 =>
  some v1.2
set_option maxRecDepth 100000 in
set_option maxHeartbeats 4000000 in
theorem k_X1_standInCold (l : Launch) (g : gE) (b : Nat → Nat) (y : Nat → Nat) (K : Nat → Nat → Int32) (p0 : Int32) (N_ : Nat) (R_ : (Nat → Nat → Int32)) (hR : f_X1_standInCold K p0 N_ = some R_) : FnV l g yX1_standInCold wA_X1_standInCold { frames := 2, cells := 0, slots := 0, locals := 42 } [.ref (b 0), .int p0] (wK g b y K)  (wK g b y R_) := by
  refine fEntry (As := [.ref (b 0), .int p0]) (maxL := 4) (ret := none) (by decide) rfl [some (.ref (b 0)), some (.int p0), none, none] (Nat.le_of_ble_eq_true rfl) (lvInB.to (lvInB.sm (lvInB.sm (lvInB.nn (lvInB.nn lvInB.nil))))) ?_
  intro p e s m below meth c A C hr hlocks hname hA
  have C : Cx p s m _ c g A cX1_standInCold 4 wA_X1_standInCold RX1 := C
  rw [f_X1_standInCold] at hR
  refine g_iconst C dX1_standInCold_0 0 ic_0 1 rfl ?_
  refine g_istore_n C dX1_standInCold_1 [_, _, _, _] (Nat.le_of_ble_eq_true rfl) rfl rfl 2 rfl ?_
  refine g_lv [some (.ref (b 0)), some (.int p0), some (.int 0), none] (lvLe.sm (lvLe.sm (lvLe.sm (lvLe.nn lvLe.nil)))) ?_
  obtain ⟨v1, hv1, hR⟩ := opt_b hR
  refine k_X1_standInCold_L2 l g C N_ p0 y N_ 0 K _ hv1 ?_
  obtain rfl := Option.some.inj hR
  exact g_vret C hr hlocks hA (by first | (dsimp only; done) | rfl) dX1_standInCold_36
theorem hd_X1_standInWarm : yX1_standInWarm.cls = RX1 ∧ yX1_standInWarm.cls ≠ "java/lang/invoke/MethodHandle" ∧ yX1_standInWarm.cls ≠ "java/lang/invoke/VarHandle" ∧ (parseMethodDescriptor yX1_standInWarm.desc).map (fun d => d.parameters.length) = some 2 := by decide +kernel
def f_X1_standInWarm (K : Nat → Nat → Int32) (p0 : Int32) (p1 : Int32) : Bool × (Nat → Nat → Int32) :=
  if jIn (K 0 0) p0 then
    (true, (kS K 8 (upd (K 8) (Int32.toNatClampNeg p0) (f_X0_gain (K 8 (Int32.toNatClampNeg p0)) (p1 * (f_X0_warmPoints (K 5 (Int32.toNatClampNeg p0)) (K 6 (Int32.toNatClampNeg p0))))))))
  else
    (false, K)
set_option maxRecDepth 100000 in
set_option maxHeartbeats 4000000 in
theorem k_X1_standInWarm (l : Launch) (g : gE) (b : Nat → Nat) (y : Nat → Nat) (K : Nat → Nat → Int32) (p0 : Int32) (p1 : Int32) : FnI l g yX1_standInWarm wA_X1_standInWarm { frames := 2, cells := 0, slots := 0, locals := 42 } [.ref (b 0), .int p0, .int p1] (wK g b y K) (b2i ((f_X1_standInWarm K p0 p1).1)) (wK g b y ((f_X1_standInWarm K p0 p1).2)) := by
  generalize hR : f_X1_standInWarm K p0 p1 = R_
  refine fEntry (As := [.ref (b 0), .int p0, .int p1]) (maxL := 4) (ret := (some .boolean)) (by decide) rfl [some (.ref (b 0)), some (.int p0), some (.int p1), none] (Nat.le_of_ble_eq_true rfl) (lvInB.to (lvInB.sm (lvInB.sm (lvInB.sm (lvInB.nn lvInB.nil))))) ?_
  intro p e s m below meth c A C hr hlocks hname hA
  have C : Cx p s m _ c g A cX1_standInWarm 4 wA_X1_standInWarm RX1 := C
  rw [f_X1_standInWarm] at hR
  refine g_aload_n C dX1_standInWarm_0 rfl 1 rfl ?_
  refine g_iload_n C dX1_standInWarm_1 rfl 2 rfl ?_
  refine g_callQR C (rn_V C (k_X1_jugAtq l g (b 0) (b 1) (b 2) (b 3) (b 4) (b 5) (K 0 0) (K 0 1) (K 0 2) (K 0 3) (K 0 4) y p0) (cwV 1 C.1.2.2.2.2 (gdV wl_143 wl_140 wl_141 wl_142 wl_14) rfl rfl rfl hd_X1_jugAt ⟨Nat.le_of_ble_eq_true rfl, Nat.le_of_ble_eq_true rfl⟩) 0 rfl rfl [0, 1] rfl rfl rfl rfl (Nat.le_of_ble_eq_true rfl) ⟨Nat.zero_le _, Nat.zero_le _⟩ dX1_standInWarm_2) hR 5 rfl (fun c_2 hR => ?_) (fun c_2 hR => ?_)
  · have hj_2 : (Int32.toNatClampNeg p0) < 5 := jIn_lt c_2
    refine g_astore_n C dX1_standInWarm_5 [_, _, _, _] (Nat.le_of_ble_eq_true rfl) rfl rfl 6 rfl ?_
    refine g_aload_n C dX1_standInWarm_6 rfl 7 rfl ?_
    refine g_nonnull C dX1_standInWarm_7 12 (by decide) ?_
    refine g_aload_n C dX1_standInWarm_12 rfl 13 rfl ?_
    refine g_iload_n C dX1_standInWarm_13 rfl 14 rfl ?_
    refine g_aload_n C dX1_standInWarm_14 rfl 15 rfl ?_
    refine g_callIR C (rn_VN C (k_X0_warmPoints l g (y (Int32.toNatClampNeg p0)) (K 5 (Int32.toNatClampNeg p0)) (K 6 (Int32.toNatClampNeg p0)) (K 7 (Int32.toNatClampNeg p0)) (K 8 (Int32.toNatClampNeg p0))) ⟨va_cnB 0 C.1.2.2.2.2 (gdA wl_186) rfl rfl rfl (nst C (List.mem_of_getElem? (i := 43) rfl)) (C.1.2.2.2.2 _ (List.mem_cons_of_mem _ wl_27)) hd_X0_warmPoints.2 ⟨Nat.le_of_ble_eq_true rfl, Nat.le_of_ble_eq_true rfl⟩, C.1.2.2.2.2 _ (List.mem_cons_of_mem _ wl_184), C.1.2.2.2.2 _ (List.mem_cons_of_mem _ wl_185)⟩ (6 + (Int32.toNatClampNeg p0)) (wK_jug hj_2) rfl [6 + (Int32.toNatClampNeg p0)] (hC_c (wK_jug hj_2) hC_n) nd_1 rfl rfl (Nat.le_of_ble_eq_true rfl) ⟨Nat.zero_le _, Nat.zero_le _⟩ dX1_standInWarm_15) 18 rfl ?_
    refine g_imul C dX1_standInWarm_18 19 rfl ?_
    refine g_callV C (rn_VN C (k_X0_gain l g (y (Int32.toNatClampNeg p0)) (K 5 (Int32.toNatClampNeg p0)) (K 6 (Int32.toNatClampNeg p0)) (K 7 (Int32.toNatClampNeg p0)) (K 8 (Int32.toNatClampNeg p0)) (p1 * (f_X0_warmPoints (K 5 (Int32.toNatClampNeg p0)) (K 6 (Int32.toNatClampNeg p0))))) ⟨va_cnB 1 C.1.2.2.2.2 (gdA wl_177) rfl rfl rfl (nst C (List.mem_of_getElem? (i := 42) rfl)) (C.1.2.2.2.2 _ (List.mem_cons_of_mem _ wl_27)) hd_X0_gain.2 ⟨Nat.le_of_ble_eq_true rfl, Nat.le_of_ble_eq_true rfl⟩, C.1.2.2.2.2 _ (List.mem_cons_of_mem _ wl_175), C.1.2.2.2.2 _ (List.mem_cons_of_mem _ wl_176)⟩ (6 + (Int32.toNatClampNeg p0)) (wK_jug hj_2) rfl [6 + (Int32.toNatClampNeg p0)] (hC_c (wK_jug hj_2) hC_n) nd_1 rfl rfl (Nat.le_of_ble_eq_true rfl) ⟨Nat.zero_le _, Nat.zero_le _⟩ dX1_standInWarm_19) (wK g b y (kS K 8 (upd (K 8) (Int32.toNatClampNeg p0) (f_X0_gain (K 8 (Int32.toNatClampNeg p0)) (p1 * (f_X0_warmPoints (K 5 (Int32.toNatClampNeg p0)) (K 6 (Int32.toNatClampNeg p0)))))))) (wK_j3 hj_2) rfl 22 rfl ?_
    refine g_iconst C dX1_standInWarm_22 1 ic_1 23 rfl ?_
    subst hR
    exact g_zret C hr hlocks (by decide) hA rfl (by first | (dsimp only; done) | rfl) dX1_standInWarm_23
  · refine g_astore_nN C dX1_standInWarm_5 [_, _, _, _] (Nat.le_of_ble_eq_true rfl) rfl rfl 6 rfl ?_
    refine g_aload_nN C dX1_standInWarm_6 rfl 7 rfl ?_
    refine g_nonnullN C dX1_standInWarm_7 10 rfl ?_
    refine g_iconst C dX1_standInWarm_10 0 ic_0 11 rfl ?_
    subst hR
    exact g_zret C hr hlocks (by decide) hA rfl (by first | (dsimp only; done) | rfl) dX1_standInWarm_11
theorem hd_X1_addJug : yX1_addJug.cls = RX1 ∧ yX1_addJug.cls ≠ "java/lang/invoke/MethodHandle" ∧ yX1_addJug.cls ≠ "java/lang/invoke/VarHandle" ∧ (parseMethodDescriptor yX1_addJug.desc).map (fun d => d.parameters.length) = some 4 := by decide +kernel
def f_X1_addJug (K : Nat → Nat → Int32) (p0 : Int32) (p1 : Int32) (p2 : Int32) (p3 : Int32) : Bool × (Nat → Nat → Int32) :=
  if (b2i (f_X3_isOneOf p0 6)) = 0 then
    (false, K)
  else
    if (b2i (f_X3_isOneOf p1 10)) = 0 then
      (false, K)
    else
      if p2 < 1 then
        (false, K)
      else
        if p2 ≤ 9 then
          if (b2i (f_X3_isOneOf (K 0 0) 5)) = 0 then
            if p3 < 0 then
              (false, K)
            else
              if 240 < p3 then
                (false, K)
              else
                (false, K)
          else
            if p3 < 0 then
              (false, K)
            else
              if 240 < p3 then
                (false, K)
              else
                (true, (kS (kS (kS (kS (kS K 0 (upd (K 0) 0 ((K 0 0) + 1))) 5 (upd (K 5) (Int32.toNatClampNeg (K 0 0)) ((f_X0_fill p0 p1 p2 p3).1))) 6 (upd (K 6) (Int32.toNatClampNeg (K 0 0)) ((f_X0_fill p0 p1 p2 p3).2.1))) 7 (upd (K 7) (Int32.toNatClampNeg (K 0 0)) ((f_X0_fill p0 p1 p2 p3).2.2.1))) 8 (upd (K 8) (Int32.toNatClampNeg (K 0 0)) ((f_X0_fill p0 p1 p2 p3).2.2.2))))
        else
          (false, K)
set_option maxRecDepth 100000 in
set_option maxHeartbeats 4000000 in
theorem k_X1_addJug (l : Launch) (g : gE) (b : Nat → Nat) (y : Nat → Nat) (K : Nat → Nat → Int32) (p0 : Int32) (p1 : Int32) (p2 : Int32) (p3 : Int32) : FnI l g yX1_addJug wA_X1_addJug { frames := 1, cells := 0, slots := 0, locals := 24 } [.ref (b 0), .int p0, .int p1, .int p2, .int p3] (wK g b y K) (b2i ((f_X1_addJug K p0 p1 p2 p3).1)) (wK g b y ((f_X1_addJug K p0 p1 p2 p3).2)) := by
  generalize hR : f_X1_addJug K p0 p1 p2 p3 = R_
  refine fEntry (As := [.ref (b 0), .int p0, .int p1, .int p2, .int p3]) (maxL := 6) (ret := (some .boolean)) (by decide) rfl [some (.ref (b 0)), some (.int p0), some (.int p1), some (.int p2), some (.int p3), none] (Nat.le_of_ble_eq_true rfl) (lvInB.to (lvInB.sm (lvInB.sm (lvInB.sm (lvInB.sm (lvInB.sm (lvInB.nn lvInB.nil))))))) ?_
  intro p e s m below meth c A C hr hlocks hname hA
  have C : Cx p s m _ c g A cX1_addJug 6 wA_X1_addJug RX1 := C
  rw [f_X1_addJug] at hR
  refine g_iload_n C dX1_addJug_0 rfl 1 rfl ?_
  refine g_bipush C dX1_addJug_1 6 bp_6 3 rfl ?_
  refine g_callIR C (rn_SN C (k_X3_isOneOf l g p0 6) ⟨va_cnB 2 C.1.2.2.2.2 (gdA wl_95) rfl rfl rfl (nst C (List.mem_of_getElem? (i := 39) rfl)) (C.1.2.2.2.2 _ (List.mem_cons_of_mem _ wl_2)) hd_X3_isOneOf.2 ⟨Nat.le_of_ble_eq_true rfl, Nat.le_of_ble_eq_true rfl⟩, C.1.2.2.2.2 _ (List.mem_cons_of_mem _ wl_94), trivial⟩ [] rfl rfl rfl rfl (Nat.le_of_ble_eq_true rfl) ⟨Nat.zero_le _, Nat.zero_le _⟩ dX1_addJug_3) 6 rfl ?_
  refine g_if_eq C dX1_addJug_6 hR 29 9 (by decide) rfl (fun c_6 hR => ?_) (fun c_6 hR => ?_)
  · refine g_iconst C dX1_addJug_29 0 ic_0 30 rfl ?_
    subst hR
    exact g_zret C hr hlocks (by decide) hA rfl (by first | (dsimp only; done) | rfl) dX1_addJug_30
  · refine g_iload_n C dX1_addJug_9 rfl 10 rfl ?_
    refine g_bipush C dX1_addJug_10 10 bp_10 12 rfl ?_
    refine g_callIR C (rn_SN C (k_X3_isOneOf l g p1 10) ⟨va_cnB 2 C.1.2.2.2.2 (gdA wl_95) rfl rfl rfl (nst C (List.mem_of_getElem? (i := 39) rfl)) (C.1.2.2.2.2 _ (List.mem_cons_of_mem _ wl_2)) hd_X3_isOneOf.2 ⟨Nat.le_of_ble_eq_true rfl, Nat.le_of_ble_eq_true rfl⟩, C.1.2.2.2.2 _ (List.mem_cons_of_mem _ wl_94), trivial⟩ [] rfl rfl rfl rfl (Nat.le_of_ble_eq_true rfl) ⟨Nat.zero_le _, Nat.zero_le _⟩ dX1_addJug_12) 15 rfl ?_
    refine g_if_eq C dX1_addJug_15 hR 29 18 (by decide) rfl (fun c_15 hR => ?_) (fun c_15 hR => ?_)
    · refine g_iconst C dX1_addJug_29 0 ic_0 30 rfl ?_
      subst hR
      exact g_zret C hr hlocks (by decide) hA rfl (by first | (dsimp only; done) | rfl) dX1_addJug_30
    · refine g_iload_n C dX1_addJug_18 rfl 19 rfl ?_
      refine g_iconst C dX1_addJug_19 1 ic_1 20 rfl ?_
      refine g_icmp_lt C dX1_addJug_20 hR 29 23 (by decide) rfl (fun c_20 hR => ?_) (fun c_20 hR => ?_)
      · refine g_iconst C dX1_addJug_29 0 ic_0 30 rfl ?_
        subst hR
        exact g_zret C hr hlocks (by decide) hA rfl (by first | (dsimp only; done) | rfl) dX1_addJug_30
      · refine g_iload_n C dX1_addJug_23 rfl 24 rfl ?_
        refine g_bipush C dX1_addJug_24 9 bp_9 26 rfl ?_
        refine g_icmp_le C dX1_addJug_26 hR 31 29 (by decide) rfl (fun c_26 hR => ?_) (fun c_26 hR => ?_)
        · refine g_aload_n C dX1_addJug_31 rfl 32 rfl ?_
          refine g_get (v := .int (K 0 0)) C (hiC hiA_1) 0 rfl rfl 1 (by decide) (List.mem_cons_of_mem _ wl_41) rfl rfl dX1_addJug_32 35 rfl ?_
          refine g_aload_n C dX1_addJug_35 rfl 36 rfl ?_
          refine g_get (v := .ref (b 1)) C (hiC hiA_1) 0 rfl rfl 0 (by decide) (List.mem_cons_of_mem _ wl_40) rfl rfl dX1_addJug_36 39 rfl ?_
          refine g_alen C 1 2 rfl rfl 5 (show Int32.ofNat 5 = 5 by decide) dX1_addJug_39 40 rfl ?_
          refine g_callIR C (rn_SN C (k_X3_isOneOf l g (K 0 0) 5) ⟨va_cnB 2 C.1.2.2.2.2 (gdA wl_95) rfl rfl rfl (nst C (List.mem_of_getElem? (i := 39) rfl)) (C.1.2.2.2.2 _ (List.mem_cons_of_mem _ wl_2)) hd_X3_isOneOf.2 ⟨Nat.le_of_ble_eq_true rfl, Nat.le_of_ble_eq_true rfl⟩, C.1.2.2.2.2 _ (List.mem_cons_of_mem _ wl_94), trivial⟩ [] rfl rfl rfl rfl (Nat.le_of_ble_eq_true rfl) ⟨Nat.zero_le _, Nat.zero_le _⟩ dX1_addJug_40) 43 rfl ?_
          refine g_if_eq C dX1_addJug_43 hR 58 46 (by decide) rfl (fun c_43 hR => ?_) (fun c_43 hR => ?_)
          · refine g_null C dX1_addJug_58 59 rfl ?_
            refine g_astoreN C dX1_addJug_59 [_, _, _, _, _, _] (Nat.le_of_ble_eq_true rfl) rfl rfl 61 rfl ?_
            refine g_iload C dX1_addJug_61 rfl 63 rfl ?_
            refine g_if_lt C dX1_addJug_63 hR 79 66 (by decide) rfl (fun c_63 hR => ?_) (fun c_63 hR => ?_)
            · refine g_iconst C dX1_addJug_79 0 ic_0 80 rfl ?_
              subst hR
              exact g_zret C hr hlocks (by decide) hA rfl (by first | (dsimp only; done) | rfl) dX1_addJug_80
            · refine g_iload C dX1_addJug_66 rfl 68 rfl ?_
              refine g_sipush C dX1_addJug_68 240 sp_240 71 rfl ?_
              refine g_icmp_gt C dX1_addJug_71 hR 79 74 (by decide) rfl (fun c_71 hR => ?_) (fun c_71 hR => ?_)
              · refine g_iconst C dX1_addJug_79 0 ic_0 80 rfl ?_
                subst hR
                exact g_zret C hr hlocks (by decide) hA rfl (by first | (dsimp only; done) | rfl) dX1_addJug_80
              · refine g_aloadN C dX1_addJug_74 rfl 76 rfl ?_
                refine g_nonnullN C dX1_addJug_76 79 rfl ?_
                refine g_iconst C dX1_addJug_79 0 ic_0 80 rfl ?_
                subst hR
                exact g_zret C hr hlocks (by decide) hA rfl (by first | (dsimp only; done) | rfl) dX1_addJug_80
          · refine g_aload_n C dX1_addJug_46 rfl 47 rfl ?_
            refine g_get (v := .ref (b 1)) C (hiC hiA_1) 0 rfl rfl 0 (by decide) (List.mem_cons_of_mem _ wl_40) rfl rfl dX1_addJug_47 50 rfl ?_
            refine g_aload_n C dX1_addJug_50 rfl 51 rfl ?_
            refine g_get (v := .int (K 0 0)) C (hiC hiA_1) 0 rfl rfl 1 (by decide) (List.mem_cons_of_mem _ wl_41) rfl rfl dX1_addJug_51 54 rfl ?_
            refine g_aald C 1 rfl (one_in c_43 (by decide)) (.ref (y (Int32.toNatClampNeg (K 0 0)))) rfl dX1_addJug_54 55 rfl ?_
            have hj_54 : (Int32.toNatClampNeg (K 0 0)) < 5 := vpin_lt (n := 5) (one_in c_43 (by decide))
            refine g_goto C dX1_addJug_55 59 (by decide) ?_
            refine g_astore C dX1_addJug_59 [_, _, _, _, _, _] (Nat.le_of_ble_eq_true rfl) rfl rfl 61 rfl ?_
            refine g_iload C dX1_addJug_61 rfl 63 rfl ?_
            refine g_if_lt C dX1_addJug_63 hR 79 66 (by decide) rfl (fun c_63 hR => ?_) (fun c_63 hR => ?_)
            · refine g_iconst C dX1_addJug_79 0 ic_0 80 rfl ?_
              subst hR
              exact g_zret C hr hlocks (by decide) hA rfl (by first | (dsimp only; done) | rfl) dX1_addJug_80
            · refine g_iload C dX1_addJug_66 rfl 68 rfl ?_
              refine g_sipush C dX1_addJug_68 240 sp_240 71 rfl ?_
              refine g_icmp_gt C dX1_addJug_71 hR 79 74 (by decide) rfl (fun c_71 hR => ?_) (fun c_71 hR => ?_)
              · refine g_iconst C dX1_addJug_79 0 ic_0 80 rfl ?_
                subst hR
                exact g_zret C hr hlocks (by decide) hA rfl (by first | (dsimp only; done) | rfl) dX1_addJug_80
              · refine g_aload C dX1_addJug_74 rfl 76 rfl ?_
                refine g_nonnull C dX1_addJug_76 81 (by decide) ?_
                refine g_aload C dX1_addJug_81 rfl 83 rfl ?_
                refine g_iload_n C dX1_addJug_83 rfl 84 rfl ?_
                refine g_iload_n C dX1_addJug_84 rfl 85 rfl ?_
                refine g_iload_n C dX1_addJug_85 rfl 86 rfl ?_
                refine g_iload C dX1_addJug_86 rfl 88 rfl ?_
                refine g_callV C (rn_VN C (k_X0_fill l g (y (Int32.toNatClampNeg (K 0 0))) (K 5 (Int32.toNatClampNeg (K 0 0))) (K 6 (Int32.toNatClampNeg (K 0 0))) (K 7 (Int32.toNatClampNeg (K 0 0))) (K 8 (Int32.toNatClampNeg (K 0 0))) p0 p1 p2 p3) ⟨va_cnB 4 C.1.2.2.2.2 (gdA wl_150) rfl rfl rfl (nst C (List.mem_of_getElem? (i := 40) rfl)) (C.1.2.2.2.2 _ (List.mem_cons_of_mem _ wl_27)) hd_X0_fill.2 ⟨Nat.le_of_ble_eq_true rfl, Nat.le_of_ble_eq_true rfl⟩, C.1.2.2.2.2 _ (List.mem_cons_of_mem _ wl_148), C.1.2.2.2.2 _ (List.mem_cons_of_mem _ wl_149)⟩ (6 + (Int32.toNatClampNeg (K 0 0))) (wK_jug hj_54) rfl [6 + (Int32.toNatClampNeg (K 0 0))] (hC_c (wK_jug hj_54) hC_n) nd_1 rfl rfl (Nat.le_of_ble_eq_true rfl) ⟨Nat.zero_le _, Nat.zero_le _⟩ dX1_addJug_88) (wK g b y (kS (kS (kS (kS K 5 (upd (K 5) (Int32.toNatClampNeg (K 0 0)) ((f_X0_fill p0 p1 p2 p3).1))) 6 (upd (K 6) (Int32.toNatClampNeg (K 0 0)) ((f_X0_fill p0 p1 p2 p3).2.1))) 7 (upd (K 7) (Int32.toNatClampNeg (K 0 0)) ((f_X0_fill p0 p1 p2 p3).2.2.1))) 8 (upd (K 8) (Int32.toNatClampNeg (K 0 0)) ((f_X0_fill p0 p1 p2 p3).2.2.2)))) (wK_j0123 hj_54) rfl 91 rfl ?_
                refine g_aload_n C dX1_addJug_91 rfl 92 rfl ?_
                refine g_dup C dX1_addJug_92 rfl 93 rfl ?_
                refine g_get (v := .int (K 0 0)) C (hiC hiA_1) 0 rfl rfl 1 (by decide) (List.mem_cons_of_mem _ wl_41) rfl rfl dX1_addJug_93 96 rfl ?_
                refine g_iconst C dX1_addJug_96 1 ic_1 97 rfl ?_
                refine g_iadd C dX1_addJug_97 98 rfl ?_
                refine g_put C (hiC hiA_1) tyX1 tyX1_ok nmX1 0 rfl rfl 1 (by decide) (List.mem_cons_of_mem _ wl_41) rfl rfl rfl rfl (Nat.le_of_ble_eq_true rfl) dX1_addJug_98 (wK g b y (kS (kS (kS (kS (kS K 0 (upd (K 0) 0 ((K 0 0) + 1))) 5 (upd (K 5) (Int32.toNatClampNeg (K 0 0)) ((f_X0_fill p0 p1 p2 p3).1))) 6 (upd (K 6) (Int32.toNatClampNeg (K 0 0)) ((f_X0_fill p0 p1 p2 p3).2.1))) 7 (upd (K 7) (Int32.toNatClampNeg (K 0 0)) ((f_X0_fill p0 p1 p2 p3).2.2.1))) 8 (upd (K 8) (Int32.toNatClampNeg (K 0 0)) ((f_X0_fill p0 p1 p2 p3).2.2.2)))) rfl 101 rfl ?_
                refine g_iconst C dX1_addJug_101 1 ic_1 102 rfl ?_
                subst hR
                exact g_zret C hr hlocks (by decide) hA rfl (by first | (dsimp only; done) | rfl) dX1_addJug_102
        · refine g_iconst C dX1_addJug_29 0 ic_0 30 rfl ?_
          subst hR
          exact g_zret C hr hlocks (by decide) hA rfl (by first | (dsimp only; done) | rfl) dX1_addJug_30
theorem hd_X1_copyFrom : yX1_copyFrom.cls = RX1 ∧ yX1_copyFrom.cls ≠ "java/lang/invoke/MethodHandle" ∧ yX1_copyFrom.cls ≠ "java/lang/invoke/VarHandle" ∧ (parseMethodDescriptor yX1_copyFrom.desc).map (fun d => d.parameters.length) = some 1 := by decide +kernel
def f_X1_copyFrom_L2 (K2 : Nat → Nat → Int32) (N_ : Nat) : Nat → Int32 → (Nat → Nat → Int32) → Option (Int32 × (Nat → Nat → Int32))
  | 0, _, _ => none
  | n_ + 1, x2, K =>
    if 5 ≤ x2 then
      some (x2, K)
    else
      if x2 < 0 ∨ 5 ≤ (Int32.toNatClampNeg x2) then none else
      if jIn (K2 0 0) x2 then
        f_X1_copyFrom_L2 K2 N_ n_ (x2 + 1) (kS (kS (kS (kS K 5 (upd (K 5) (Int32.toNatClampNeg x2) ((f_X0_fillFrom (K2 5 (Int32.toNatClampNeg x2)) (K2 6 (Int32.toNatClampNeg x2)) (K2 7 (Int32.toNatClampNeg x2)) (K2 8 (Int32.toNatClampNeg x2))).1))) 6 (upd (K 6) (Int32.toNatClampNeg x2) ((f_X0_fillFrom (K2 5 (Int32.toNatClampNeg x2)) (K2 6 (Int32.toNatClampNeg x2)) (K2 7 (Int32.toNatClampNeg x2)) (K2 8 (Int32.toNatClampNeg x2))).2.1))) 7 (upd (K 7) (Int32.toNatClampNeg x2) ((f_X0_fillFrom (K2 5 (Int32.toNatClampNeg x2)) (K2 6 (Int32.toNatClampNeg x2)) (K2 7 (Int32.toNatClampNeg x2)) (K2 8 (Int32.toNatClampNeg x2))).2.2.1))) 8 (upd (K 8) (Int32.toNatClampNeg x2) ((f_X0_fillFrom (K2 5 (Int32.toNatClampNeg x2)) (K2 6 (Int32.toNatClampNeg x2)) (K2 7 (Int32.toNatClampNeg x2)) (K2 8 (Int32.toNatClampNeg x2))).2.2.2)))
      else
        f_X1_copyFrom_L2 K2 N_ n_ (x2 + 1) K
set_option maxRecDepth 100000 in
set_option maxHeartbeats 4000000 in
theorem k_X1_copyFrom_L2 (l : Launch) (g : gE) {p : Program} {e : Env} {s : State} {m : MethodId} {args : Array Value} {below : List Frame} {meth : Method} {c : Code} {Q : State → Prop} {A : Nat → Prop} {b : Nat → Nat} {b2 : Nat → Nat}  (C : Cx p s m args c g A cX1_copyFrom 5 wA_X1_copyFrom RX1) (N_ : Nat) (y : Nat → Nat) (y2 : Nat → Nat) (K2 : Nat → Nat → Int32) : ∀ (n_ : Nat) (x2 : Int32) (K : Nat → Nat → Int32) (rv_ : Int32 × (Nat → Nat → Int32)), f_X1_copyFrom_L2 K2 N_ n_ x2 K = some rv_ → (Gm p l e (headSpec wA_X1_copyFrom ({ frames := 2, cells := 0, slots := 0, locals := 45 } : Room)).room s m args below meth c Q g A 5 0 0 (wKK g b y rv_.2 b2 y2 K2) [some (.ref (b 0)), some (.ref (b2 0)), some (.int rv_.1), none, none] [] 46) → Gm p l e (headSpec wA_X1_copyFrom ({ frames := 2, cells := 0, slots := 0, locals := 45 } : Room)).room s m args below meth c Q g A 5 0 0 (wKK g b y K b2 y2 K2) [some (.ref (b 0)), some (.ref (b2 0)), some (.int x2), none, none] [] 2 := by
  intro n_
  induction n_ with
  | zero =>
    intro x2 K rv_ hR
    simp [f_X1_copyFrom_L2] at hR
  | succ n_ ih =>
    intro x2 K rv_ hR hk
    rw [f_X1_copyFrom_L2] at hR
    refine g_iload_n C dX1_copyFrom_2 rfl 3 rfl ?_
    refine g_aload_n C dX1_copyFrom_3 rfl 4 rfl ?_
    refine g_get (v := .ref (b 1)) C (hiC hiA_1) 0 rfl rfl 0 (by decide) (List.mem_cons_of_mem _ wl_40) rfl rfl dX1_copyFrom_4 7 rfl ?_
    refine g_alen C 1 2 rfl rfl 5 (show Int32.ofNat 5 = 5 by decide) dX1_copyFrom_7 8 rfl ?_
    refine g_icmp_ge C dX1_copyFrom_8 hR 46 11 (by decide) rfl (fun c_8 hR => ?_) (fun c_8 hR => ?_)
    · obtain rfl := Option.some.inj hR
      refine g_lv [some (.ref (b 0)), some (.ref (b2 0)), some (.int x2), none, none] (lvLe.sm (lvLe.sm (lvLe.sm (lvLe.nn (lvLe.nn lvLe.nil))))) ?_
      exact hk
    · refine g_aload_n C dX1_copyFrom_11 rfl 12 rfl ?_
      refine g_get (v := .ref (b 1)) C (hiC hiA_1) 0 rfl rfl 0 (by decide) (List.mem_cons_of_mem _ wl_40) rfl rfl dX1_copyFrom_12 15 rfl ?_
      refine g_iload_n C dX1_copyFrom_15 rfl 16 rfl ?_
      obtain ⟨h_16, hR⟩ := opt_n hR
      refine g_aald C 1 rfl h_16 (.ref (y (Int32.toNatClampNeg x2))) rfl dX1_copyFrom_16 17 rfl ?_
      have hj_16 : (Int32.toNatClampNeg x2) < 5 := vpin_lt (n := 5) h_16
      refine g_astore_n C dX1_copyFrom_17 [_, _, _, _, _] (Nat.le_of_ble_eq_true rfl) rfl rfl 18 rfl ?_
      refine g_aload_n C dX1_copyFrom_18 rfl 19 rfl ?_
      refine g_iload_n C dX1_copyFrom_19 rfl 20 rfl ?_
      refine g_callQR C (rn_V C (k_X1_jugAtq l g (b2 0) (b2 1) (b2 2) (b2 3) (b2 4) (b2 5) (K2 0 0) (K2 0 1) (K2 0 2) (K2 0 3) (K2 0 4) y2 x2) (cwV 1 C.1.2.2.2.2 (gdV wl_143 wl_140 wl_141 wl_142 wl_14) rfl rfl rfl hd_X1_jugAt ⟨Nat.le_of_ble_eq_true rfl, Nat.le_of_ble_eq_true rfl⟩) 11 rfl rfl [11, 12] rfl rfl rfl rfl (Nat.le_of_ble_eq_true rfl) ⟨Nat.zero_le _, Nat.zero_le _⟩ dX1_copyFrom_20) hR 23 rfl (fun c_20 hR => ?_) (fun c_20 hR => ?_)
      · have hj_20 : (Int32.toNatClampNeg x2) < 5 := jIn_lt c_20
        refine g_astore C dX1_copyFrom_23 [_, _, _, _, _] (Nat.le_of_ble_eq_true rfl) rfl rfl 25 rfl ?_
        refine g_aload_n C dX1_copyFrom_25 rfl 26 rfl ?_
        refine g_ifnull C dX1_copyFrom_26 29 rfl ?_
        refine g_aload C dX1_copyFrom_29 rfl 31 rfl ?_
        refine g_ifnull C dX1_copyFrom_31 34 rfl ?_
        refine g_aload_n C dX1_copyFrom_34 rfl 35 rfl ?_
        refine g_aload C dX1_copyFrom_35 rfl 37 rfl ?_
        refine g_callV C (rn_VN C (k_X0_fillFrom l g (y (Int32.toNatClampNeg x2)) (y2 (Int32.toNatClampNeg x2)) (K 5 (Int32.toNatClampNeg x2)) (K 6 (Int32.toNatClampNeg x2)) (K 7 (Int32.toNatClampNeg x2)) (K 8 (Int32.toNatClampNeg x2)) (K2 5 (Int32.toNatClampNeg x2)) (K2 6 (Int32.toNatClampNeg x2)) (K2 7 (Int32.toNatClampNeg x2)) (K2 8 (Int32.toNatClampNeg x2))) ⟨va_cnB 1 C.1.2.2.2.2 (gdA wl_146) rfl rfl rfl (nst C (List.mem_of_getElem? (i := 38) rfl)) (C.1.2.2.2.2 _ (List.mem_cons_of_mem _ wl_27)) hd_X0_fillFrom.2 ⟨Nat.le_of_ble_eq_true rfl, Nat.le_of_ble_eq_true rfl⟩, C.1.2.2.2.2 _ (List.mem_cons_of_mem _ wl_144), C.1.2.2.2.2 _ (List.mem_cons_of_mem _ wl_145)⟩ (6 + (Int32.toNatClampNeg x2)) (wKK_jug hj_16) rfl [6 + (Int32.toNatClampNeg x2), 17 + (Int32.toNatClampNeg x2)] (hC_c (wKK_jug hj_16) (hC_c (wKK_jug1 hj_20) hC_n)) (nd_2 (by omega)) rfl rfl (Nat.le_of_ble_eq_true rfl) ⟨Nat.zero_le _, Nat.zero_le _⟩ dX1_copyFrom_37) (wKK g b y (kS (kS (kS (kS K 5 (upd (K 5) (Int32.toNatClampNeg x2) ((f_X0_fillFrom (K2 5 (Int32.toNatClampNeg x2)) (K2 6 (Int32.toNatClampNeg x2)) (K2 7 (Int32.toNatClampNeg x2)) (K2 8 (Int32.toNatClampNeg x2))).1))) 6 (upd (K 6) (Int32.toNatClampNeg x2) ((f_X0_fillFrom (K2 5 (Int32.toNatClampNeg x2)) (K2 6 (Int32.toNatClampNeg x2)) (K2 7 (Int32.toNatClampNeg x2)) (K2 8 (Int32.toNatClampNeg x2))).2.1))) 7 (upd (K 7) (Int32.toNatClampNeg x2) ((f_X0_fillFrom (K2 5 (Int32.toNatClampNeg x2)) (K2 6 (Int32.toNatClampNeg x2)) (K2 7 (Int32.toNatClampNeg x2)) (K2 8 (Int32.toNatClampNeg x2))).2.2.1))) 8 (upd (K 8) (Int32.toNatClampNeg x2) ((f_X0_fillFrom (K2 5 (Int32.toNatClampNeg x2)) (K2 6 (Int32.toNatClampNeg x2)) (K2 7 (Int32.toNatClampNeg x2)) (K2 8 (Int32.toNatClampNeg x2))).2.2.2))) b2 y2 K2) (wKK_j0123 hj_16 hj_20) rfl 40 rfl ?_
        refine g_iinc C dX1_copyFrom_40 rfl 1 ic_1 [_, _, _, _, _] (Nat.le_of_ble_eq_true rfl) rfl rfl 43 rfl ?_
        refine g_goto C dX1_copyFrom_43 2 (by decide) ?_
        refine g_lv [some (.ref (b 0)), some (.ref (b2 0)), some (.int (x2 + 1)), none, none] (lvLe.sm (lvLe.sm (lvLe.sm (lvLe.nn (lvLe.nn lvLe.nil))))) ?_
        exact ih _ _ rv_ hR hk
      · refine g_astoreN C dX1_copyFrom_23 [_, _, _, _, _] (Nat.le_of_ble_eq_true rfl) rfl rfl 25 rfl ?_
        refine g_aload_n C dX1_copyFrom_25 rfl 26 rfl ?_
        refine g_ifnull C dX1_copyFrom_26 29 rfl ?_
        refine g_aloadN C dX1_copyFrom_29 rfl 31 rfl ?_
        refine g_ifnullN C dX1_copyFrom_31 40 (by decide) ?_
        refine g_iinc C dX1_copyFrom_40 rfl 1 ic_1 [_, _, _, _, _] (Nat.le_of_ble_eq_true rfl) rfl rfl 43 rfl ?_
        refine g_goto C dX1_copyFrom_43 2 (by decide) ?_
        refine g_lv [some (.ref (b 0)), some (.ref (b2 0)), some (.int (x2 + 1)), none, none] (lvLe.sm (lvLe.sm (lvLe.sm (lvLe.nn (lvLe.nn lvLe.nil))))) ?_
        exact ih _ _ rv_ hR hk
def f_X1_copyFrom (K : Nat → Nat → Int32) (K2 : Nat → Nat → Int32) (N_ : Nat) : Option ((Nat → Nat → Int32)) :=
  (f_X1_copyFrom_L2 K2 N_ N_ 0 K).bind fun v1 =>
  (f_X1_copyRow (K2 1) (v1.2 1) 8 N_).bind fun v2 =>
  (f_X1_copyRow (K2 2) (v1.2 2) 8 N_).bind fun v3 =>
  (f_X1_copyRow (K2 3) (v1.2 3) 4 N_).bind fun v4 =>
  (f_X1_copyRow (K2 4) (v1.2 4) 4 N_).bind fun v5 =>
  some (kS (kS (kS (kS (kS v1.2 0 (upd (upd (upd (upd (upd (v1.2 0) 0 (K2 0 0)) 1 (K2 0 1)) 2 (K2 0 2)) 3 (K2 0 3)) 4 (K2 0 4))) 1 v2) 2 v3) 3 v4) 4 v5)
set_option maxRecDepth 100000 in
set_option maxHeartbeats 4000000 in
theorem k_X1_copyFrom (l : Launch) (g : gE) (b : Nat → Nat) (b2 : Nat → Nat) (y : Nat → Nat) (K : Nat → Nat → Int32) (y2 : Nat → Nat) (K2 : Nat → Nat → Int32) (N_ : Nat) (R_ : (Nat → Nat → Int32)) (hR : f_X1_copyFrom K K2 N_ = some R_) : FnV l g yX1_copyFrom wA_X1_copyFrom { frames := 2, cells := 0, slots := 0, locals := 45 } [.ref (b 0), .ref (b2 0)] (wKK g b y K b2 y2 K2)  (wKK g b y R_ b2 y2 K2) := by
  refine fEntry (As := [.ref (b 0), .ref (b2 0)]) (maxL := 5) (ret := none) (by decide) rfl [some (.ref (b 0)), some (.ref (b2 0)), none, none, none] (Nat.le_of_ble_eq_true rfl) (lvInB.to (lvInB.sm (lvInB.sm (lvInB.nn (lvInB.nn (lvInB.nn lvInB.nil)))))) ?_
  intro p e s m below meth c A C hr hlocks hname hA
  have C : Cx p s m _ c g A cX1_copyFrom 5 wA_X1_copyFrom RX1 := C
  rw [f_X1_copyFrom] at hR
  refine g_iconst C dX1_copyFrom_0 0 ic_0 1 rfl ?_
  refine g_istore_n C dX1_copyFrom_1 [_, _, _, _, _] (Nat.le_of_ble_eq_true rfl) rfl rfl 2 rfl ?_
  refine g_lv [some (.ref (b 0)), some (.ref (b2 0)), some (.int 0), none, none] (lvLe.sm (lvLe.sm (lvLe.sm (lvLe.nn (lvLe.nn lvLe.nil))))) ?_
  obtain ⟨v1, hv1, hR⟩ := opt_b hR
  refine k_X1_copyFrom_L2 l g C N_ y y2 K2 N_ 0 K _ hv1 ?_
  refine g_aload_n C dX1_copyFrom_46 rfl 47 rfl ?_
  refine g_get (v := .ref (b2 2)) C (hiC hiA_1) 11 rfl rfl 3 (by decide) (List.mem_cons_of_mem _ wl_43) rfl rfl dX1_copyFrom_47 50 rfl ?_
  refine g_aload_n C dX1_copyFrom_50 rfl 51 rfl ?_
  refine g_get (v := .ref (b 2)) C (hiC hiA_1) 0 rfl rfl 3 (by decide) (List.mem_cons_of_mem _ wl_43) rfl rfl dX1_copyFrom_51 54 rfl ?_
  obtain ⟨v2, hv2, hR⟩ := opt_b hR
  refine g_callV C (rn_S C (k_X1_copyRow l g (b2 2) (b 2) (K2 1) (v1.2 1) 8 N_ v2 hv2) (va_cwS 2 C.1.2.2.2.2 (gdS wl_153 wl_151 wl_152 wl_14) rfl rfl rfl hd_X1_copyRow.2 ⟨Nat.le_of_ble_eq_true rfl, Nat.le_of_ble_eq_true rfl⟩) [13, 2] rfl rfl rfl rfl (Nat.le_of_ble_eq_true rfl) ⟨Nat.zero_le _, Nat.zero_le _⟩ dX1_copyFrom_54) (wKK g b y (kS v1.2 1 v2) b2 y2 K2) rfl rfl 57 rfl ?_
  refine g_aload_n C dX1_copyFrom_57 rfl 58 rfl ?_
  refine g_get (v := .ref (b2 3)) C (hiC hiA_1) 11 rfl rfl 4 (by decide) (List.mem_cons_of_mem _ wl_44) rfl rfl dX1_copyFrom_58 61 rfl ?_
  refine g_aload_n C dX1_copyFrom_61 rfl 62 rfl ?_
  refine g_get (v := .ref (b 3)) C (hiC hiA_1) 0 rfl rfl 4 (by decide) (List.mem_cons_of_mem _ wl_44) rfl rfl dX1_copyFrom_62 65 rfl ?_
  obtain ⟨v3, hv3, hR⟩ := opt_b hR
  refine g_callV C (rn_S C (k_X1_copyRow l g (b2 3) (b 3) (K2 2) (v1.2 2) 8 N_ v3 hv3) (va_cwS 2 C.1.2.2.2.2 (gdS wl_153 wl_151 wl_152 wl_14) rfl rfl rfl hd_X1_copyRow.2 ⟨Nat.le_of_ble_eq_true rfl, Nat.le_of_ble_eq_true rfl⟩) [14, 3] rfl rfl rfl rfl (Nat.le_of_ble_eq_true rfl) ⟨Nat.zero_le _, Nat.zero_le _⟩ dX1_copyFrom_65) (wKK g b y (kS (kS v1.2 1 v2) 2 v3) b2 y2 K2) rfl rfl 68 rfl ?_
  refine g_aload_n C dX1_copyFrom_68 rfl 69 rfl ?_
  refine g_get (v := .ref (b2 4)) C (hiC hiA_1) 11 rfl rfl 6 (by decide) (List.mem_cons_of_mem _ wl_46) rfl rfl dX1_copyFrom_69 72 rfl ?_
  refine g_aload_n C dX1_copyFrom_72 rfl 73 rfl ?_
  refine g_get (v := .ref (b 4)) C (hiC hiA_1) 0 rfl rfl 6 (by decide) (List.mem_cons_of_mem _ wl_46) rfl rfl dX1_copyFrom_73 76 rfl ?_
  obtain ⟨v4, hv4, hR⟩ := opt_b hR
  refine g_callV C (rn_S C (k_X1_copyRow l g (b2 4) (b 4) (K2 3) (v1.2 3) 4 N_ v4 hv4) (va_cwS 2 C.1.2.2.2.2 (gdS wl_153 wl_151 wl_152 wl_14) rfl rfl rfl hd_X1_copyRow.2 ⟨Nat.le_of_ble_eq_true rfl, Nat.le_of_ble_eq_true rfl⟩) [15, 4] rfl rfl rfl rfl (Nat.le_of_ble_eq_true rfl) ⟨Nat.zero_le _, Nat.zero_le _⟩ dX1_copyFrom_76) (wKK g b y (kS (kS (kS v1.2 1 v2) 2 v3) 3 v4) b2 y2 K2) rfl rfl 79 rfl ?_
  refine g_aload_n C dX1_copyFrom_79 rfl 80 rfl ?_
  refine g_get (v := .ref (b2 5)) C (hiC hiA_1) 11 rfl rfl 8 (by decide) (List.mem_cons_of_mem _ wl_48) rfl rfl dX1_copyFrom_80 83 rfl ?_
  refine g_aload_n C dX1_copyFrom_83 rfl 84 rfl ?_
  refine g_get (v := .ref (b 5)) C (hiC hiA_1) 0 rfl rfl 8 (by decide) (List.mem_cons_of_mem _ wl_48) rfl rfl dX1_copyFrom_84 87 rfl ?_
  obtain ⟨v5, hv5, hR⟩ := opt_b hR
  refine g_callV C (rn_S C (k_X1_copyRow l g (b2 5) (b 5) (K2 4) (v1.2 4) 4 N_ v5 hv5) (va_cwS 2 C.1.2.2.2.2 (gdS wl_153 wl_151 wl_152 wl_14) rfl rfl rfl hd_X1_copyRow.2 ⟨Nat.le_of_ble_eq_true rfl, Nat.le_of_ble_eq_true rfl⟩) [16, 5] rfl rfl rfl rfl (Nat.le_of_ble_eq_true rfl) ⟨Nat.zero_le _, Nat.zero_le _⟩ dX1_copyFrom_87) (wKK g b y (kS (kS (kS (kS v1.2 1 v2) 2 v3) 3 v4) 4 v5) b2 y2 K2) rfl rfl 90 rfl ?_
  refine g_aload_n C dX1_copyFrom_90 rfl 91 rfl ?_
  refine g_aload_n C dX1_copyFrom_91 rfl 92 rfl ?_
  refine g_get (v := .int (K2 0 0)) C (hiC hiA_1) 11 rfl rfl 1 (by decide) (List.mem_cons_of_mem _ wl_41) rfl rfl dX1_copyFrom_92 95 rfl ?_
  refine g_put C (hiC hiA_1) tyX1 tyX1_ok nmX1 0 rfl rfl 1 (by decide) (List.mem_cons_of_mem _ wl_41) rfl rfl rfl rfl (Nat.le_of_ble_eq_true rfl) dX1_copyFrom_95 (wKK g b y (kS (kS (kS (kS (kS v1.2 0 (upd (v1.2 0) 0 (K2 0 0))) 1 v2) 2 v3) 3 v4) 4 v5) b2 y2 K2) rfl 98 rfl ?_
  refine g_aload_n C dX1_copyFrom_98 rfl 99 rfl ?_
  refine g_aload_n C dX1_copyFrom_99 rfl 100 rfl ?_
  refine g_get (v := .int (K2 0 1)) C (hiC hiA_1) 11 rfl rfl 2 (by decide) (List.mem_cons_of_mem _ wl_42) rfl rfl dX1_copyFrom_100 103 rfl ?_
  refine g_put C (hiC hiA_1) tyX1 tyX1_ok nmX1 0 rfl rfl 2 (by decide) (List.mem_cons_of_mem _ wl_42) rfl rfl rfl rfl (Nat.le_of_ble_eq_true rfl) dX1_copyFrom_103 (wKK g b y (kS (kS (kS (kS (kS v1.2 0 (upd (upd (v1.2 0) 0 (K2 0 0)) 1 (K2 0 1))) 1 v2) 2 v3) 3 v4) 4 v5) b2 y2 K2) rfl 106 rfl ?_
  refine g_aload_n C dX1_copyFrom_106 rfl 107 rfl ?_
  refine g_aload_n C dX1_copyFrom_107 rfl 108 rfl ?_
  refine g_get (v := .int (K2 0 2)) C (hiC hiA_1) 11 rfl rfl 5 (by decide) (List.mem_cons_of_mem _ wl_45) rfl rfl dX1_copyFrom_108 111 rfl ?_
  refine g_put C (hiC hiA_1) tyX1 tyX1_ok nmX1 0 rfl rfl 5 (by decide) (List.mem_cons_of_mem _ wl_45) rfl rfl rfl rfl (Nat.le_of_ble_eq_true rfl) dX1_copyFrom_111 (wKK g b y (kS (kS (kS (kS (kS v1.2 0 (upd (upd (upd (v1.2 0) 0 (K2 0 0)) 1 (K2 0 1)) 2 (K2 0 2))) 1 v2) 2 v3) 3 v4) 4 v5) b2 y2 K2) rfl 114 rfl ?_
  refine g_aload_n C dX1_copyFrom_114 rfl 115 rfl ?_
  refine g_aload_n C dX1_copyFrom_115 rfl 116 rfl ?_
  refine g_get (v := .int (K2 0 3)) C (hiC hiA_1) 11 rfl rfl 7 (by decide) (List.mem_cons_of_mem _ wl_47) rfl rfl dX1_copyFrom_116 119 rfl ?_
  refine g_put C (hiC hiA_1) tyX1 tyX1_ok nmX1 0 rfl rfl 7 (by decide) (List.mem_cons_of_mem _ wl_47) rfl rfl rfl rfl (Nat.le_of_ble_eq_true rfl) dX1_copyFrom_119 (wKK g b y (kS (kS (kS (kS (kS v1.2 0 (upd (upd (upd (upd (v1.2 0) 0 (K2 0 0)) 1 (K2 0 1)) 2 (K2 0 2)) 3 (K2 0 3))) 1 v2) 2 v3) 3 v4) 4 v5) b2 y2 K2) rfl 122 rfl ?_
  refine g_aload_n C dX1_copyFrom_122 rfl 123 rfl ?_
  refine g_aload_n C dX1_copyFrom_123 rfl 124 rfl ?_
  refine g_get (v := .int (K2 0 4)) C (hiC hiA_1) 11 rfl rfl 9 (by decide) (List.mem_cons_of_mem _ wl_49) rfl rfl dX1_copyFrom_124 127 rfl ?_
  refine g_put C (hiC hiA_1) tyX1 tyX1_ok nmX1 0 rfl rfl 9 (by decide) (List.mem_cons_of_mem _ wl_49) rfl rfl rfl rfl (Nat.le_of_ble_eq_true rfl) dX1_copyFrom_127 (wKK g b y (kS (kS (kS (kS (kS v1.2 0 (upd (upd (upd (upd (upd (v1.2 0) 0 (K2 0 0)) 1 (K2 0 1)) 2 (K2 0 2)) 3 (K2 0 3)) 4 (K2 0 4))) 1 v2) 2 v3) 3 v4) 4 v5) b2 y2 K2) rfl 130 rfl ?_
  obtain rfl := Option.some.inj hR
  exact g_vret C hr hlocks hA (by first | (dsimp only; done) | rfl) dX1_copyFrom_130
theorem hd_X1_dropInHand : yX1_dropInHand.cls = RX1 ∧ yX1_dropInHand.cls ≠ "java/lang/invoke/MethodHandle" ∧ yX1_dropInHand.cls ≠ "java/lang/invoke/VarHandle" ∧ (parseMethodDescriptor yX1_dropInHand.desc).map (fun d => d.parameters.length) = some 1 := by decide +kernel
def f_X1_dropInHand_L9 (K : Nat → Nat → Int32) (N_ : Nat) : Nat → Int32 → (Nat → Nat) → Option (Int32 × (Nat → Nat))
  | 0, _, _ => none
  | n_ + 1, x2, si =>
    if (K 0 0) ≤ (x2 + 1) then
      some (x2, si)
    else
      if 5 ≤ (x2 + 1) then
        some (x2, si)
      else
        if (x2 + 1) < 0 ∨ 5 ≤ (Int32.toNatClampNeg (x2 + 1)) then none else
        if 5 ≤ (si (Int32.toNatClampNeg (x2 + 1))) then none else
        if x2 < 0 ∨ 5 ≤ (Int32.toNatClampNeg x2) then none else
        f_X1_dropInHand_L9 K N_ n_ (x2 + 1) (va_up si (Int32.toNatClampNeg x2) (si (Int32.toNatClampNeg (x2 + 1))))
set_option maxRecDepth 100000 in
set_option maxHeartbeats 4000000 in
theorem k_X1_dropInHand_L9 (l : Launch) (g : gE) {p : Program} {e : Env} {s : State} {m : MethodId} {args : Array Value} {below : List Frame} {meth : Method} {c : Code} {Q : State → Prop} {A : Nat → Prop} {b : Nat → Nat} {ei : Nat} (C : Cx p s m args c g A cX1_dropInHand 3 wA_X1_dropInHand RX1) (N_ : Nat) (y : Nat → Nat) (K : Nat → Nat → Int32) : ∀ (n_ : Nat) (x2 : Int32) (si : Nat → Nat) (rv_ : Int32 × (Nat → Nat)), f_X1_dropInHand_L9 K N_ n_ x2 si = some rv_ → (Gm p l e (headSpec wA_X1_dropInHand ({ frames := 1, cells := 0, slots := 0, locals := 21 } : Room)).room s m args below meth c Q g A 3 0 0 (wKD g b y rv_.2 K) [some (.ref (b 0)), some (.ref (y ei)), some (.int rv_.1)] [] 50) → Gm p l e (headSpec wA_X1_dropInHand ({ frames := 1, cells := 0, slots := 0, locals := 21 } : Room)).room s m args below meth c Q g A 3 0 0 (wKD g b y si K) [some (.ref (b 0)), some (.ref (y ei)), some (.int x2)] [] 9 := by
  intro n_
  induction n_ with
  | zero =>
    intro x2 si rv_ hR
    simp [f_X1_dropInHand_L9] at hR
  | succ n_ ih =>
    intro x2 si rv_ hR hk
    rw [f_X1_dropInHand_L9] at hR
    refine g_iload_n C dX1_dropInHand_9 rfl 10 rfl ?_
    refine g_iconst C dX1_dropInHand_10 1 ic_1 11 rfl ?_
    refine g_iadd C dX1_dropInHand_11 12 rfl ?_
    refine g_aload_n C dX1_dropInHand_12 rfl 13 rfl ?_
    refine g_get (v := .int (K 0 0)) C (hiC hiA_1) 0 rfl rfl 1 (by decide) (List.mem_cons_of_mem _ wl_41) rfl rfl dX1_dropInHand_13 16 rfl ?_
    refine g_icmp_ge C dX1_dropInHand_16 hR 50 19 (by decide) rfl (fun c_16 hR => ?_) (fun c_16 hR => ?_)
    · obtain rfl := Option.some.inj hR
      refine g_lv [some (.ref (b 0)), some (.ref (y ei)), some (.int x2)] (lvLe.sm (lvLe.sm (lvLe.sm lvLe.nil))) ?_
      exact hk
    · refine g_iload_n C dX1_dropInHand_19 rfl 20 rfl ?_
      refine g_iconst C dX1_dropInHand_20 1 ic_1 21 rfl ?_
      refine g_iadd C dX1_dropInHand_21 22 rfl ?_
      refine g_aload_n C dX1_dropInHand_22 rfl 23 rfl ?_
      refine g_get (v := .ref (b 1)) C (hiC hiA_1) 0 rfl rfl 0 (by decide) (List.mem_cons_of_mem _ wl_40) rfl rfl dX1_dropInHand_23 26 rfl ?_
      refine g_alen C 1 2 rfl rfl 5 (show Int32.ofNat 5 = 5 by decide) dX1_dropInHand_26 27 rfl ?_
      refine g_icmp_ge C dX1_dropInHand_27 hR 50 30 (by decide) rfl (fun c_27 hR => ?_) (fun c_27 hR => ?_)
      · obtain rfl := Option.some.inj hR
        refine g_lv [some (.ref (b 0)), some (.ref (y ei)), some (.int x2)] (lvLe.sm (lvLe.sm (lvLe.sm lvLe.nil))) ?_
        exact hk
      · refine g_aload_n C dX1_dropInHand_30 rfl 31 rfl ?_
        refine g_get (v := .ref (b 1)) C (hiC hiA_1) 0 rfl rfl 0 (by decide) (List.mem_cons_of_mem _ wl_40) rfl rfl dX1_dropInHand_31 34 rfl ?_
        refine g_iload_n C dX1_dropInHand_34 rfl 35 rfl ?_
        refine g_aload_n C dX1_dropInHand_35 rfl 36 rfl ?_
        refine g_get (v := .ref (b 1)) C (hiC hiA_1) 0 rfl rfl 0 (by decide) (List.mem_cons_of_mem _ wl_40) rfl rfl dX1_dropInHand_36 39 rfl ?_
        refine g_iload_n C dX1_dropInHand_39 rfl 40 rfl ?_
        refine g_iconst C dX1_dropInHand_40 1 ic_1 41 rfl ?_
        refine g_iadd C dX1_dropInHand_41 42 rfl ?_
        obtain ⟨h_42, hR⟩ := opt_n hR
        obtain ⟨hs_42, hR⟩ := opt_n hR
        have hj_42 : (si (Int32.toNatClampNeg (x2 + 1))) < 5 := Nat.lt_of_not_le hs_42
        refine g_aald C 1 rfl h_42 (.ref (y (si (Int32.toNatClampNeg (x2 + 1))))) rfl dX1_dropInHand_42 43 rfl ?_
        obtain ⟨h_43, hR⟩ := opt_n hR
        refine g_aast C 1 (6 + (si (Int32.toNatClampNeg (x2 + 1)))) rfl (wKD_jug hj_42) h_43 dX1_dropInHand_43 (wKD g b y (va_up si (Int32.toNatClampNeg x2) (si (Int32.toNatClampNeg (x2 + 1)))) K) wKD_up 44 rfl ?_
        refine g_iinc C dX1_dropInHand_44 rfl 1 ic_1 [_, _, _] (Nat.le_of_ble_eq_true rfl) rfl rfl 47 rfl ?_
        refine g_goto C dX1_dropInHand_47 9 (by decide) ?_
        refine g_lv [some (.ref (b 0)), some (.ref (y ei)), some (.int (x2 + 1))] (lvLe.sm (lvLe.sm (lvLe.sm lvLe.nil))) ?_
        exact ih _ _ rv_ hR hk
def f_X1_dropInHand (si : Nat → Nat) (K : Nat → Nat → Int32) (ei : Nat) (N_ : Nat) : Option ((Nat → Nat) × (Nat → Nat → Int32)) :=
  (f_X1_dropInHand_L9 K N_ N_ (if (0 : Int32) < (K 0 1) then (K 0 1) else (0 : Int32)) si).bind fun v1 =>
  if (b2i (f_X3_isOneOf ((K 0 0) - 1) 5)) = 0 then
    some (v1.2, (kS K 0 (upd (upd (upd (K 0) 0 ((K 0 0) - 1)) 1 0) 2 0)))
  else
    some ((va_up v1.2 (Int32.toNatClampNeg ((K 0 0) - 1)) ei), (kS K 0 (upd (upd (upd (K 0) 0 ((K 0 0) - 1)) 1 0) 2 0)))
set_option maxRecDepth 100000 in
set_option maxHeartbeats 4000000 in
theorem k_X1_dropInHand (l : Launch) (g : gE) (b : Nat → Nat) (y : Nat → Nat) (si : Nat → Nat) (K : Nat → Nat → Int32) (ei : Nat) (N_ : Nat) (R_ : (Nat → Nat) × (Nat → Nat → Int32)) (hR : f_X1_dropInHand si K ei N_ = some R_) (hei : ei < 5) : FnV l g yX1_dropInHand wA_X1_dropInHand { frames := 1, cells := 0, slots := 0, locals := 21 } [.ref (b 0), .ref (y ei)] (wKD g b y si K)  (wKD g b y R_.1 R_.2) := by
  refine fEntry (As := [.ref (b 0), .ref (y ei)]) (maxL := 3) (ret := none) (by decide) rfl [some (.ref (b 0)), some (.ref (y ei)), none] (Nat.le_of_ble_eq_true rfl) (lvInB.to (lvInB.sm (lvInB.sm (lvInB.nn lvInB.nil)))) ?_
  intro p e s m below meth c A C hr hlocks hname hA
  have C : Cx p s m _ c g A cX1_dropInHand 3 wA_X1_dropInHand RX1 := C
  rw [f_X1_dropInHand] at hR
  refine g_iconst C dX1_dropInHand_0 0 ic_0 1 rfl ?_
  refine g_aload_n C dX1_dropInHand_1 rfl 2 rfl ?_
  refine g_get (v := .int (K 0 1)) C (hiC hiA_1) 0 rfl rfl 2 (by decide) (List.mem_cons_of_mem _ wl_42) rfl rfl dX1_dropInHand_2 5 rfl ?_
  refine g_max C (List.mem_cons_of_mem _ wl_207) (List.mem_cons_of_mem _ wl_117) (List.mem_cons_of_mem _ wl_118) (List.mem_cons_of_mem _ wl_119) (Nat.le_of_ble_eq_true rfl) (Nat.le_of_ble_eq_true rfl) ⟨Nat.zero_le _, Nat.zero_le _⟩ dX1_dropInHand_5 8 rfl ?_
  refine g_istore_n C dX1_dropInHand_8 [_, _, _] (Nat.le_of_ble_eq_true rfl) rfl rfl 9 rfl ?_
  refine g_lv [some (.ref (b 0)), some (.ref (y ei)), some (.int (if (0 : Int32) < (K 0 1) then (K 0 1) else (0 : Int32)))] (lvLe.sm (lvLe.sm (lvLe.sm lvLe.nil))) ?_
  obtain ⟨v1, hv1, hR⟩ := opt_b hR
  refine k_X1_dropInHand_L9 l g C N_ y K N_ (if (0 : Int32) < (K 0 1) then (K 0 1) else (0 : Int32)) si _ hv1 ?_
  refine g_aload_n C dX1_dropInHand_50 rfl 51 rfl ?_
  refine g_dup C dX1_dropInHand_51 rfl 52 rfl ?_
  refine g_get (v := .int (K 0 0)) C (hiC hiA_1) 0 rfl rfl 1 (by decide) (List.mem_cons_of_mem _ wl_41) rfl rfl dX1_dropInHand_52 55 rfl ?_
  refine g_iconst C dX1_dropInHand_55 1 ic_1 56 rfl ?_
  refine g_isub C dX1_dropInHand_56 57 rfl ?_
  refine g_put C (hiC hiA_1) tyX1 tyX1_ok nmX1 0 rfl rfl 1 (by decide) (List.mem_cons_of_mem _ wl_41) rfl rfl rfl rfl (Nat.le_of_ble_eq_true rfl) dX1_dropInHand_57 (wKD g b y v1.2 (kS K 0 (upd (K 0) 0 ((K 0 0) - 1)))) rfl 60 rfl ?_
  refine g_aload_n C dX1_dropInHand_60 rfl 61 rfl ?_
  refine g_get (v := .int ((K 0 0) - 1)) C (hiC hiA_1) 0 rfl rfl 1 (by decide) (List.mem_cons_of_mem _ wl_41) rfl rfl dX1_dropInHand_61 64 rfl ?_
  refine g_aload_n C dX1_dropInHand_64 rfl 65 rfl ?_
  refine g_get (v := .ref (b 1)) C (hiC hiA_1) 0 rfl rfl 0 (by decide) (List.mem_cons_of_mem _ wl_40) rfl rfl dX1_dropInHand_65 68 rfl ?_
  refine g_alen C 1 2 rfl rfl 5 (show Int32.ofNat 5 = 5 by decide) dX1_dropInHand_68 69 rfl ?_
  refine g_callIR C (rn_SN C (k_X3_isOneOf l g ((K 0 0) - 1) 5) ⟨va_cnB 2 C.1.2.2.2.2 (gdA wl_95) rfl rfl rfl (nst C (List.mem_of_getElem? (i := 39) rfl)) (C.1.2.2.2.2 _ (List.mem_cons_of_mem _ wl_2)) hd_X3_isOneOf.2 ⟨Nat.le_of_ble_eq_true rfl, Nat.le_of_ble_eq_true rfl⟩, C.1.2.2.2.2 _ (List.mem_cons_of_mem _ wl_94), trivial⟩ [] rfl rfl rfl rfl (Nat.le_of_ble_eq_true rfl) ⟨Nat.zero_le _, Nat.zero_le _⟩ dX1_dropInHand_69) 72 rfl ?_
  refine g_if_eq C dX1_dropInHand_72 hR 85 75 (by decide) rfl (fun c_72 hR => ?_) (fun c_72 hR => ?_)
  · refine g_aload_n C dX1_dropInHand_85 rfl 86 rfl ?_
    refine g_iconst C dX1_dropInHand_86 0 ic_0 87 rfl ?_
    refine g_put C (hiC hiA_1) tyX1 tyX1_ok nmX1 0 rfl rfl 2 (by decide) (List.mem_cons_of_mem _ wl_42) rfl rfl rfl rfl (Nat.le_of_ble_eq_true rfl) dX1_dropInHand_87 (wKD g b y v1.2 (kS K 0 (upd (upd (K 0) 0 ((K 0 0) - 1)) 1 0))) rfl 90 rfl ?_
    refine g_aload_n C dX1_dropInHand_90 rfl 91 rfl ?_
    refine g_iconst C dX1_dropInHand_91 0 ic_0 92 rfl ?_
    refine g_put C (hiC hiA_1) tyX1 tyX1_ok nmX1 0 rfl rfl 5 (by decide) (List.mem_cons_of_mem _ wl_45) rfl rfl rfl rfl (Nat.le_of_ble_eq_true rfl) dX1_dropInHand_92 (wKD g b y v1.2 (kS K 0 (upd (upd (upd (K 0) 0 ((K 0 0) - 1)) 1 0) 2 0))) rfl 95 rfl ?_
    obtain rfl := Option.some.inj hR
    exact g_vret C hr hlocks hA (by first | (dsimp only; done) | rfl) dX1_dropInHand_95
  · refine g_aload_n C dX1_dropInHand_75 rfl 76 rfl ?_
    refine g_get (v := .ref (b 1)) C (hiC hiA_1) 0 rfl rfl 0 (by decide) (List.mem_cons_of_mem _ wl_40) rfl rfl dX1_dropInHand_76 79 rfl ?_
    refine g_aload_n C dX1_dropInHand_79 rfl 80 rfl ?_
    refine g_get (v := .int ((K 0 0) - 1)) C (hiC hiA_1) 0 rfl rfl 1 (by decide) (List.mem_cons_of_mem _ wl_41) rfl rfl dX1_dropInHand_80 83 rfl ?_
    refine g_aload_n C dX1_dropInHand_83 rfl 84 rfl ?_
    refine g_aast C 1 (6 + ei) rfl (wKD_jug hei) (one_in c_72 (by decide)) dX1_dropInHand_84 (wKD g b y (va_up v1.2 (Int32.toNatClampNeg ((K 0 0) - 1)) ei) (kS K 0 (upd (K 0) 0 ((K 0 0) - 1)))) wKD_up 85 rfl ?_
    refine g_aload_n C dX1_dropInHand_85 rfl 86 rfl ?_
    refine g_iconst C dX1_dropInHand_86 0 ic_0 87 rfl ?_
    refine g_put C (hiC hiA_1) tyX1 tyX1_ok nmX1 0 rfl rfl 2 (by decide) (List.mem_cons_of_mem _ wl_42) rfl rfl rfl rfl (Nat.le_of_ble_eq_true rfl) dX1_dropInHand_87 (wKD g b y (va_up v1.2 (Int32.toNatClampNeg ((K 0 0) - 1)) ei) (kS K 0 (upd (upd (K 0) 0 ((K 0 0) - 1)) 1 0))) rfl 90 rfl ?_
    refine g_aload_n C dX1_dropInHand_90 rfl 91 rfl ?_
    refine g_iconst C dX1_dropInHand_91 0 ic_0 92 rfl ?_
    refine g_put C (hiC hiA_1) tyX1 tyX1_ok nmX1 0 rfl rfl 5 (by decide) (List.mem_cons_of_mem _ wl_45) rfl rfl rfl rfl (Nat.le_of_ble_eq_true rfl) dX1_dropInHand_92 (wKD g b y (va_up v1.2 (Int32.toNatClampNeg ((K 0 0) - 1)) ei) (kS K 0 (upd (upd (upd (K 0) 0 ((K 0 0) - 1)) 1 0) 2 0))) rfl 95 rfl ?_
    obtain rfl := Option.some.inj hR
    exact g_vret C hr hlocks hA (by first | (dsimp only; done) | rfl) dX1_dropInHand_95
theorem hd_X1_takeCups : yX1_takeCups.cls = RX1 ∧ yX1_takeCups.cls ≠ "java/lang/invoke/MethodHandle" ∧ yX1_takeCups.cls ≠ "java/lang/invoke/VarHandle" ∧ (parseMethodDescriptor yX1_takeCups.desc).map (fun d => d.parameters.length) = some 1 := by decide +kernel
def f_X1_takeCups (K : Nat → Nat → Int32) (p0 : Int32) (N_ : Nat) : Option (Bool × (Nat → Nat) × (Nat → Nat → Int32)) :=
  if jIn (K 0 0) (K 0 1) then
    if p0 < 1 then
      some (false, (fun i => i), K)
    else
      if p0 ≤ (K 7 (Int32.toNatClampNeg (K 0 1))) then
        if (upd (K 7) (Int32.toNatClampNeg (K 0 1)) ((K 7 (Int32.toNatClampNeg (K 0 1))) - p0) (Int32.toNatClampNeg (K 0 1))) = 0 then
          (f_X1_dropInHand (fun i => i) (kS K 7 (upd (K 7) (Int32.toNatClampNeg (K 0 1)) ((K 7 (Int32.toNatClampNeg (K 0 1))) - p0))) (Int32.toNatClampNeg (K 0 1)) N_).bind fun v1 =>
          some (true, v1.1, v1.2)
        else
          some (true, (fun i => i), (kS K 7 (upd (K 7) (Int32.toNatClampNeg (K 0 1)) ((K 7 (Int32.toNatClampNeg (K 0 1))) - p0))))
      else
        some (false, (fun i => i), K)
  else
    some (false, (fun i => i), K)
set_option maxRecDepth 100000 in
set_option maxHeartbeats 4000000 in
theorem k_X1_takeCups (l : Launch) (g : gE) (b : Nat → Nat) (y : Nat → Nat) (K : Nat → Nat → Int32) (p0 : Int32) (N_ : Nat) (R_ : Bool × (Nat → Nat) × (Nat → Nat → Int32)) (hR : f_X1_takeCups K p0 N_ = some R_) : FnI l g yX1_takeCups wA_X1_takeCups { frames := 3, cells := 0, slots := 0, locals := 62 } [.ref (b 0), .int p0] (wK g b y K) (b2i R_.1) (wKD g b y R_.2.1 R_.2.2) := by
  refine fEntry (As := [.ref (b 0), .int p0]) (maxL := 3) (ret := (some .boolean)) (by decide) rfl [some (.ref (b 0)), some (.int p0), none] (Nat.le_of_ble_eq_true rfl) (lvInB.to (lvInB.sm (lvInB.sm (lvInB.nn lvInB.nil)))) ?_
  intro p e s m below meth c A C hr hlocks hname hA
  have C : Cx p s m _ c g A cX1_takeCups 3 wA_X1_takeCups RX1 := C
  rw [f_X1_takeCups] at hR
  refine g_aload_n C dX1_takeCups_0 rfl 1 rfl ?_
  refine g_callQR C (rn_V C (k_X1_inHandq l g (b 0) (b 1) (b 2) (b 3) (b 4) (b 5) (K 0 0) (K 0 1) (K 0 2) (K 0 3) (K 0 4) y) (cwV 0 C.1.2.2.2.2 (gdV wl_199 wl_196 wl_197 wl_198 wl_14) rfl rfl rfl hd_X1_inHand ⟨Nat.le_of_ble_eq_true rfl, Nat.le_of_ble_eq_true rfl⟩) 0 rfl rfl [0, 1] rfl rfl rfl rfl (Nat.le_of_ble_eq_true rfl) ⟨Nat.zero_le _, Nat.zero_le _⟩ dX1_takeCups_1) hR 4 rfl (fun c_1 hR => ?_) (fun c_1 hR => ?_)
  · have hj_1 : (Int32.toNatClampNeg (K 0 1)) < 5 := jIn_lt c_1
    refine g_astore_n C dX1_takeCups_4 [_, _, _] (Nat.le_of_ble_eq_true rfl) rfl rfl 5 rfl ?_
    refine g_aload_n C dX1_takeCups_5 rfl 6 rfl ?_
    refine g_ifnull C dX1_takeCups_6 9 rfl ?_
    refine g_iload_n C dX1_takeCups_9 rfl 10 rfl ?_
    refine g_iconst C dX1_takeCups_10 1 ic_1 11 rfl ?_
    refine g_icmp_lt C dX1_takeCups_11 hR 22 14 (by decide) rfl (fun c_11 hR => ?_) (fun c_11 hR => ?_)
    · refine g_iconst C dX1_takeCups_22 0 ic_0 23 rfl ?_
      obtain rfl := Option.some.inj hR
      exact g_zret C hr hlocks (by decide) hA rfl (by first | (dsimp only; done) | rfl) dX1_takeCups_23
    · refine g_iload_n C dX1_takeCups_14 rfl 15 rfl ?_
      refine g_aload_n C dX1_takeCups_15 rfl 16 rfl ?_
      refine g_getN (v := .int (K 7 (Int32.toNatClampNeg (K 0 1)))) C (hiC hiA_0) (6 + (Int32.toNatClampNeg (K 0 1))) (wK_jug hj_1) rfl 2 (by decide) (List.mem_of_getElem? (i := 16) rfl) rfl rfl dX1_takeCups_16 19 rfl ?_
      refine g_icmp_le C dX1_takeCups_19 hR 24 22 (by decide) rfl (fun c_19 hR => ?_) (fun c_19 hR => ?_)
      · refine g_aload_n C dX1_takeCups_24 rfl 25 rfl ?_
        refine g_dup C dX1_takeCups_25 rfl 26 rfl ?_
        refine g_getN (v := .int (K 7 (Int32.toNatClampNeg (K 0 1)))) C (hiC hiA_0) (6 + (Int32.toNatClampNeg (K 0 1))) (wK_jug hj_1) rfl 2 (by decide) (List.mem_of_getElem? (i := 16) rfl) rfl rfl dX1_takeCups_26 29 rfl ?_
        refine g_iload_n C dX1_takeCups_29 rfl 30 rfl ?_
        refine g_isub C dX1_takeCups_30 31 rfl ?_
        refine g_putN C (hiC hiA_0) tyX0 tyX0_ok nmX0 (6 + (Int32.toNatClampNeg (K 0 1))) (wK_jug hj_1) rfl 2 (by decide) (List.mem_of_getElem? (i := 16) rfl) rfl rfl rfl rfl (Nat.le_of_ble_eq_true rfl) dX1_takeCups_31 (wK g b y (kS K 7 (upd (K 7) (Int32.toNatClampNeg (K 0 1)) ((K 7 (Int32.toNatClampNeg (K 0 1))) - p0)))) (wK_j2 hj_1) 34 rfl ?_
        refine g_aload_n C dX1_takeCups_34 rfl 35 rfl ?_
        refine g_getN (v := .int (upd (K 7) (Int32.toNatClampNeg (K 0 1)) ((K 7 (Int32.toNatClampNeg (K 0 1))) - p0) (Int32.toNatClampNeg (K 0 1)))) C (hiC hiA_0) (6 + (Int32.toNatClampNeg (K 0 1))) (wK_jug hj_1) rfl 2 (by decide) (List.mem_of_getElem? (i := 16) rfl) rfl rfl dX1_takeCups_35 38 rfl ?_
        refine g_if_ne C dX1_takeCups_38 hR 46 41 (by decide) rfl (fun c_38 hR => ?_) (fun c_38 hR => ?_)
        · refine g_iconst C dX1_takeCups_46 1 ic_1 47 rfl ?_
          obtain rfl := Option.some.inj hR
          exact g_zret C hr hlocks (by decide) hA rfl (by first | (dsimp only; done) | rfl) dX1_takeCups_47
        · refine g_aload_n C dX1_takeCups_41 rfl 42 rfl ?_
          refine g_aload_n C dX1_takeCups_42 rfl 43 rfl ?_
          obtain ⟨v1, hv1, hR⟩ := opt_b hR
          refine g_callV C (rn_V C (k_X1_dropInHand l g b y (fun i => i) (kS K 7 (upd (K 7) (Int32.toNatClampNeg (K 0 1)) ((K 7 (Int32.toNatClampNeg (K 0 1))) - p0))) (Int32.toNatClampNeg (K 0 1)) N_ v1 hv1 hj_1) (cwV 1 C.1.2.2.2.2 (gdV wl_206 wl_203 wl_204 wl_205 wl_14) rfl rfl rfl hd_X1_dropInHand ⟨Nat.le_of_ble_eq_true rfl, Nat.le_of_ble_eq_true rfl⟩) 0 rfl rfl _ rg_C rg_n rfl rfl (Nat.le_of_ble_eq_true rfl) ⟨Nat.zero_le _, Nat.zero_le _⟩ dX1_takeCups_43) (wKD g b y v1.1 v1.2) (rg_put (wKD_len.trans wK_len.symm)) (rg_len (wKD_len.trans wK_len.symm)) 46 rfl ?_
          refine g_iconst C dX1_takeCups_46 1 ic_1 47 rfl ?_
          obtain rfl := Option.some.inj hR
          exact g_zret C hr hlocks (by decide) hA rfl (by first | (dsimp only; done) | rfl) dX1_takeCups_47
      · refine g_iconst C dX1_takeCups_22 0 ic_0 23 rfl ?_
        obtain rfl := Option.some.inj hR
        exact g_zret C hr hlocks (by decide) hA rfl (by first | (dsimp only; done) | rfl) dX1_takeCups_23
  · refine g_astore_nN C dX1_takeCups_4 [_, _, _] (Nat.le_of_ble_eq_true rfl) rfl rfl 5 rfl ?_
    refine g_aload_nN C dX1_takeCups_5 rfl 6 rfl ?_
    refine g_ifnullN C dX1_takeCups_6 22 (by decide) ?_
    refine g_iconst C dX1_takeCups_22 0 ic_0 23 rfl ?_
    obtain rfl := Option.some.inj hR
    exact g_zret C hr hlocks (by decide) hA rfl (by first | (dsimp only; done) | rfl) dX1_takeCups_23
def permOk (s : Nat → Nat) : Bool := (List.range 5).all (fun i => decide (s i < 5)) && (List.range 5).all (fun i => (List.range 5).all (fun j => decide (s i = s j → i = j)))
def kPm (s : Nat → Nat) (K : Nat → Nat → Int32) : Nat → Nat → Int32 := fun a => if 5 ≤ a ∧ a ≤ 8 then (fun i => K a (s i)) else K a
theorem permOk_lt {s : Nat → Nat} (h : permOk s = true) {i : Nat} (hi : i < 5) : s i < 5 := by
  simp only [permOk, Bool.and_eq_true, List.all_eq_true, List.mem_range, decide_eq_true_eq] at h
  exact h.1 i hi
theorem permOk_inj {s : Nat → Nat} (h : permOk s = true) {i j : Nat} (hi : i < 5) (hj : j < 5) (e : s i = s j) : i = j := by
  simp only [permOk, Bool.and_eq_true, List.all_eq_true, List.mem_range, decide_eq_true_eq] at h
  exact h.2 i hi j hj e
def pmG (s : Nat → Nat) (k : Nat) : Nat := if k < 6 then k else 6 + s (k - 6)
theorem pm_get {g : gE} {b y s : Nat → Nat} {K : Nat → Nat → Int32} (h : permOk s = true) : ∀ (k : Nat) (q : Nat × va_E), (wK g b (fun i => y (s i)) (kPm s K))[k]? = some q → (wKD g b y s K)[pmG s k]? = some q := by
  intro k q hq
  match k, hq with
  | 0, hq => exact hq
  | 1, hq => exact hq
  | 2, hq => exact hq
  | 3, hq => exact hq
  | 4, hq => exact hq
  | 5, hq => exact hq
  | 6, hq => exact (wKD_jug (permOk_lt h (i := 0) (by decide))).trans hq
  | 7, hq => exact (wKD_jug (permOk_lt h (i := 1) (by decide))).trans hq
  | 8, hq => exact (wKD_jug (permOk_lt h (i := 2) (by decide))).trans hq
  | 9, hq => exact (wKD_jug (permOk_lt h (i := 3) (by decide))).trans hq
  | 10, hq => exact (wKD_jug (permOk_lt h (i := 4) (by decide))).trans hq
  | k + 11, hq => exact absurd hq (by simp [wK])
theorem pm_P {g : gE} {b y s : Nat → Nat} {K : Nat → Nat → Int32} {H : Heap} (h : permOk s = true) (hP : va_P g.1 vwCl (wKD g b y s K) H) : va_P g.1 vwCl (wK g b (fun i => y (s i)) (kPm s K)) H := fun k q hq => hP _ q (pm_get h k q hq)
theorem pm_D {g : gE} {b y s : Nat → Nat} {K : Nat → Nat → Int32} {A : Nat → Prop} (h : permOk s = true) (hD : va_D A (wKD g b y s K)) : va_D A (wK g b (fun i => y (s i)) (kPm s K)) := by
  refine hD.by (pmG s) (pm_get h) (fun i j hi hj e => ?_)
  have hi : i < 11 := hi
  have hj : j < 11 := hj
  unfold pmG at e
  split at e <;> split at e
  · exact e
  · omega
  · omega
  · have := permOk_inj h (i := i - 6) (j := j - 6) (by omega) (by omega) (by omega)
    omega
theorem FnI.world {l : Launch} {g : gE} {y : MethodName} {wsY : List Cond} {rm : Room} {As : List Value} {wc w1 w2 : va_W} {r : Int32} (h : FnI l g y wsY rm As wc r w1) (hP : ∀ H, va_P g.1 vwCl w1 H → va_P g.1 vwCl w2 H) (hD : ∀ A, va_D A w1 → va_D A w2) : FnI l g y wsY rm As wc r w2 := by
  intro sz p e ha h1 h2 s m args below hf hs hp hk
  obtain ⟨n, o, a1, a2, a3, a4, a5⟩ := h sz p e ha h1 h2 s m args below hf hs hp hk
  refine ⟨n, o, a1, a2, a3, ?_, a5⟩
  obtain ⟨⟨r1, u, b1, b2, b3, b4, b5⟩, b6⟩ := a4
  exact ⟨⟨r1, u, b1, b2, hP _ b3, b4, hD _ b5⟩, b6⟩
def f_X1_takeCupsp (y : Nat → Nat) (K : Nat → Nat → Int32) (p0 : Int32) (N_ : Nat) : Option (Bool × (Nat → Nat) × (Nat → Nat → Int32)) :=
  (f_X1_takeCups K p0 N_).bind fun v => if permOk v.2.1 = true then some (v.1, (fun i => y (v.2.1 i)), kPm v.2.1 v.2.2) else none
theorem k_X1_takeCupsp (l : Launch) (g : gE) (b y : Nat → Nat) (K : Nat → Nat → Int32) (p0 : Int32) (N_ : Nat) (R_ : Bool × (Nat → Nat) × (Nat → Nat → Int32)) (hR : f_X1_takeCupsp y K p0 N_ = some R_) : FnI l g yX1_takeCups wA_X1_takeCups { frames := 3, cells := 0, slots := 0, locals := 62 } [.ref (b 0), .int p0] (wK g b y K) (b2i R_.1) (wK g b R_.2.1 R_.2.2) := by
  rw [f_X1_takeCupsp] at hR
  obtain ⟨v, hv, hR⟩ := opt_b hR
  split at hR
  · rename_i hp
    cases hR
    exact (k_X1_takeCups l g b y K p0 N_ v hv).world (fun H => pm_P hp) (fun A => pm_D hp)
  · cases hR

