theorem hd_X2_weigh : yX2_weigh.cls = RX2 ∧ yX2_weigh.cls ≠ "java/lang/invoke/MethodHandle" ∧ yX2_weigh.cls ≠ "java/lang/invoke/VarHandle" ∧ (parseMethodDescriptor yX2_weigh.desc).map (fun d => d.parameters.length) = some 1 := by decide +kernel
def f_X2_weigh_L2 (kd : Int32) (pt : Int32) (N_ : Nat) : Nat → Int32 → (Nat → Int64) → Option (Int32 × (Nat → Int64))
  | 0, _, _ => none
  | n_ + 1, x2, F =>
    if 5 ≤ x2 then
      some (x2, F)
    else
      if x2 < 0 ∨ 5 ≤ (Int32.toNatClampNeg x2) then none else
      f_X2_weigh_L2 kd pt N_ n_ (x2 + 1) (vp_updL F (Int32.toNatClampNeg x2) (Int32.toInt64 (f_X0_weightOf kd pt x2)))
set_option maxRecDepth 100000 in
set_option maxHeartbeats 4000000 in
theorem k_X2_weigh_L2 (l : Launch) (g : gE) {p : Program} {e : Env} {s : State} {m : MethodId} {args : Array Value} {below : List Frame} {meth : Method} {c : Code} {Q : State → Prop} {A : Nat → Prop} {h0 : Nat} {h1 : Nat} {h2 : Nat}  (C : Cx p s m args c g A cX2_weigh 3 wA_X2_weigh RX2) (N_ : Nat) (kd : Int32) (fg : Int32) (cp : Int32) (pt : Int32) : ∀ (n_ : Nat) (x2 : Int32) (F : Nat → Int64) (rv_ : Int32 × (Nat → Int64)), f_X2_weigh_L2 kd pt N_ n_ x2 F = some rv_ → (Gm p l e (headSpec wA_X2_weigh ({ frames := 3, cells := 0, slots := 0, locals := 57 } : Room)).room s m args below meth c Q g A 3 0 0 ([(h0, .inr (2, [.ref h1])), (h1, .inl (g.2.1 1, 5, .inr (.inl rv_.2))), (h2, .inr (0, [.int kd, .int fg, .int cp, .int pt]))]) [some (.ref h0), some (.ref h2), some (.int rv_.1)] [] 29) → Gm p l e (headSpec wA_X2_weigh ({ frames := 3, cells := 0, slots := 0, locals := 57 } : Room)).room s m args below meth c Q g A 3 0 0 ([(h0, .inr (2, [.ref h1])), (h1, .inl (g.2.1 1, 5, .inr (.inl F))), (h2, .inr (0, [.int kd, .int fg, .int cp, .int pt]))]) [some (.ref h0), some (.ref h2), some (.int x2)] [] 2 := by
  intro n_
  induction n_ with
  | zero =>
    intro x2 F rv_ hR
    simp [f_X2_weigh_L2] at hR
  | succ n_ ih =>
    intro x2 F rv_ hR hk
    rw [f_X2_weigh_L2] at hR
    refine g_iload_n C dX2_weigh_2 rfl 3 rfl ?_
    refine g_aload_n C dX2_weigh_3 rfl 4 rfl ?_
    refine g_get (v := .ref h1) C (hiC hiA_2) 0 rfl rfl 0 (by decide) (List.mem_cons_of_mem _ wl_61) rfl rfl dX2_weigh_4 7 rfl ?_
    refine g_alen C 1 1 rfl rfl 5 (show Int32.ofNat 5 = 5 by decide) dX2_weigh_7 8 rfl ?_
    refine g_icmp_ge C dX2_weigh_8 hR 29 11 (by decide) rfl (fun c_8 hR => ?_) (fun c_8 hR => ?_)
    · obtain rfl := Option.some.inj hR
      refine g_lv [some (.ref h0), some (.ref h2), some (.int x2)] (lvLe.sm (lvLe.sm (lvLe.sm lvLe.nil))) ?_
      exact hk
    · refine g_aload_n C dX2_weigh_11 rfl 12 rfl ?_
      refine g_get (v := .ref h1) C (hiC hiA_2) 0 rfl rfl 0 (by decide) (List.mem_cons_of_mem _ wl_61) rfl rfl dX2_weigh_12 15 rfl ?_
      refine g_iload_n C dX2_weigh_15 rfl 16 rfl ?_
      refine g_aload_n C dX2_weigh_16 rfl 17 rfl ?_
      refine g_iload_n C dX2_weigh_17 rfl 18 rfl ?_
      refine g_callIR C (rn_VN C (k_X0_weightOf l g h2 kd fg cp pt x2) ⟨va_cnB 1 C.1.2.2.2.2 (gdA wl_409) rfl rfl rfl (nst C (List.mem_of_getElem? (i := 45) rfl)) (C.1.2.2.2.2 _ (List.mem_cons_of_mem _ wl_27)) hd_X0_weightOf.2 ⟨Nat.le_of_ble_eq_true rfl, Nat.le_of_ble_eq_true rfl⟩, C.1.2.2.2.2 _ (List.mem_cons_of_mem _ wl_407), C.1.2.2.2.2 _ (List.mem_cons_of_mem _ wl_408)⟩ 2 rfl rfl [2] rfl rfl rfl rfl (Nat.le_of_ble_eq_true rfl) ⟨Nat.zero_le _, Nat.zero_le _⟩ dX2_weigh_18) 21 rfl ?_
      refine g_i2l C dX2_weigh_21 22 rfl ?_
      obtain ⟨h_22, hR⟩ := opt_n hR
      refine g_last (f := F) C 1 rfl h_22 dX2_weigh_22 ([(h0, .inr (2, [.ref h1])), (h1, .inl (g.2.1 1, 5, .inr (.inl (vp_updL F (Int32.toNatClampNeg x2) (Int32.toInt64 (f_X0_weightOf kd pt x2)))))), (h2, .inr (0, [.int kd, .int fg, .int cp, .int pt]))]) rfl 23 rfl ?_
      refine g_iinc C dX2_weigh_23 rfl 1 ic_1 [_, _, _] (Nat.le_of_ble_eq_true rfl) rfl rfl 26 rfl ?_
      refine g_goto C dX2_weigh_26 2 (by decide) ?_
      refine g_lv [some (.ref h0), some (.ref h2), some (.int (x2 + 1))] (lvLe.sm (lvLe.sm (lvLe.sm lvLe.nil))) ?_
      exact ih _ _ rv_ hR hk
def f_X2_weigh (F : Nat → Int64) (kd : Int32) (pt : Int32) (N_ : Nat) : Option ((Nat → Int64)) :=
  (f_X2_weigh_L2 kd pt N_ N_ 0 F).bind fun v1 =>
  some v1.2
set_option maxRecDepth 100000 in
set_option maxHeartbeats 4000000 in
theorem k_X2_weigh (l : Launch) (g : gE) (h0 : Nat) (h1 : Nat) (h2 : Nat) (F : Nat → Int64) (kd : Int32) (fg : Int32) (cp : Int32) (pt : Int32) (N_ : Nat) (R_ : (Nat → Int64)) (hR : f_X2_weigh F kd pt N_ = some R_) : FnV l g yX2_weigh wA_X2_weigh { frames := 3, cells := 0, slots := 0, locals := 57 } [.ref h0, .ref h2] ([(h0, .inr (2, [.ref h1])), (h1, .inl (g.2.1 1, 5, .inr (.inl F))), (h2, .inr (0, [.int kd, .int fg, .int cp, .int pt]))])  ([(h0, .inr (2, [.ref h1])), (h1, .inl (g.2.1 1, 5, .inr (.inl R_))), (h2, .inr (0, [.int kd, .int fg, .int cp, .int pt]))]) := by
  refine fEntry (As := [.ref h0, .ref h2]) (maxL := 3) (ret := none) (by decide) rfl [some (.ref h0), some (.ref h2), none] (Nat.le_of_ble_eq_true rfl) (lvInB.to (lvInB.sm (lvInB.sm (lvInB.nn lvInB.nil)))) ?_
  intro p e s m below meth c A C hr hlocks hname hA
  have C : Cx p s m _ c g A cX2_weigh 3 wA_X2_weigh RX2 := C
  rw [f_X2_weigh] at hR
  refine g_iconst C dX2_weigh_0 0 ic_0 1 rfl ?_
  refine g_istore_n C dX2_weigh_1 [_, _, _] (Nat.le_of_ble_eq_true rfl) rfl rfl 2 rfl ?_
  refine g_lv [some (.ref h0), some (.ref h2), some (.int 0)] (lvLe.sm (lvLe.sm (lvLe.sm lvLe.nil))) ?_
  obtain ⟨v1, hv1, hR⟩ := opt_b hR
  refine k_X2_weigh_L2 l g C N_ kd fg cp pt N_ 0 F _ hv1 ?_
  obtain rfl := Option.some.inj hR
  exact g_vret C hr hlocks hA (by first | (dsimp only; done) | rfl) dX2_weigh_29
theorem hd_X2_sumOf : yX2_sumOf.cls = RX2 ∧ yX2_sumOf.cls ≠ "java/lang/invoke/MethodHandle" ∧ yX2_sumOf.cls ≠ "java/lang/invoke/VarHandle" ∧ (parseMethodDescriptor yX2_sumOf.desc).map (fun d => d.parameters.length) = some 2 := by decide +kernel
def f_X2_sumOf_L9 (x2 : Int32) (F : Nat → Int64) (N_ : Nat) : Nat → Int64 → Int32 → Option (Int64 × Int32)
  | 0, _, _ => none
  | n_ + 1, x3, x5 =>
    if x2 < x5 then
      some (x3, x5)
    else
      if 5 ≤ x5 then
        some (x3, x5)
      else
        if x5 < 0 ∨ 5 ≤ (Int32.toNatClampNeg x5) then none else
        f_X2_sumOf_L9 x2 F N_ n_ (x3 + (F (Int32.toNatClampNeg x5))) (x5 + 1)
set_option maxRecDepth 100000 in
set_option maxHeartbeats 4000000 in
theorem k_X2_sumOf_L9 (l : Launch) (g : gE) {p : Program} {e : Env} {s : State} {m : MethodId} {args : Array Value} {below : List Frame} {meth : Method} {c : Code} {Q : State → Prop} {A : Nat → Prop} {h0 : Nat} {h1 : Nat}  (C : Cx p s m args c g A cX2_sumOf 6 wA_X2_sumOf RX2) (N_ : Nat) (x1 : Int32) (x2 : Int32) (F : Nat → Int64) : ∀ (n_ : Nat) (x3 : Int64) (x5 : Int32) (rv_ : Int64 × Int32), f_X2_sumOf_L9 x2 F N_ n_ x3 x5 = some rv_ → (Gm p l e (headSpec wA_X2_sumOf ({ frames := 1, cells := 0, slots := 0, locals := 15 } : Room)).room s m args below meth c Q g A 6 0 0 ([(h0, .inr (2, [.ref h1])), (h1, .inl (g.2.1 1, 5, .inr (.inl F)))]) [some (.ref h0), some (.int x1), some (.int x2), some (.long rv_.1), none, some (.int rv_.2)] [] 41) → Gm p l e (headSpec wA_X2_sumOf ({ frames := 1, cells := 0, slots := 0, locals := 15 } : Room)).room s m args below meth c Q g A 6 0 0 ([(h0, .inr (2, [.ref h1])), (h1, .inl (g.2.1 1, 5, .inr (.inl F)))]) [some (.ref h0), some (.int x1), some (.int x2), some (.long x3), none, some (.int x5)] [] 9 := by
  intro n_
  induction n_ with
  | zero =>
    intro x3 x5 rv_ hR
    simp [f_X2_sumOf_L9] at hR
  | succ n_ ih =>
    intro x3 x5 rv_ hR hk
    rw [f_X2_sumOf_L9] at hR
    refine g_iload C dX2_sumOf_9 rfl 11 rfl ?_
    refine g_iload_n C dX2_sumOf_11 rfl 12 rfl ?_
    refine g_icmp_gt C dX2_sumOf_12 hR 41 15 (by decide) rfl (fun c_12 hR => ?_) (fun c_12 hR => ?_)
    · obtain rfl := Option.some.inj hR
      refine g_lv [some (.ref h0), some (.int x1), some (.int x2), some (.long x3), none, some (.int x5)] (lvLe.sm (lvLe.sm (lvLe.sm (lvLe.sm (lvLe.nn (lvLe.sm lvLe.nil)))))) ?_
      exact hk
    · refine g_iload C dX2_sumOf_15 rfl 17 rfl ?_
      refine g_aload_n C dX2_sumOf_17 rfl 18 rfl ?_
      refine g_get (v := .ref h1) C (hiC hiA_2) 0 rfl rfl 0 (by decide) (List.mem_cons_of_mem _ wl_61) rfl rfl dX2_sumOf_18 21 rfl ?_
      refine g_alen C 1 1 rfl rfl 5 (show Int32.ofNat 5 = 5 by decide) dX2_sumOf_21 22 rfl ?_
      refine g_icmp_ge C dX2_sumOf_22 hR 41 25 (by decide) rfl (fun c_22 hR => ?_) (fun c_22 hR => ?_)
      · obtain rfl := Option.some.inj hR
        refine g_lv [some (.ref h0), some (.int x1), some (.int x2), some (.long x3), none, some (.int x5)] (lvLe.sm (lvLe.sm (lvLe.sm (lvLe.sm (lvLe.nn (lvLe.sm lvLe.nil)))))) ?_
        exact hk
      · refine g_lload_n C dX2_sumOf_25 rfl 26 rfl ?_
        refine g_aload_n C dX2_sumOf_26 rfl 27 rfl ?_
        refine g_get (v := .ref h1) C (hiC hiA_2) 0 rfl rfl 0 (by decide) (List.mem_cons_of_mem _ wl_61) rfl rfl dX2_sumOf_27 30 rfl ?_
        refine g_iload C dX2_sumOf_30 rfl 32 rfl ?_
        obtain ⟨h_32, hR⟩ := opt_n hR
        refine g_lald (f := F) C 1 rfl h_32 dX2_sumOf_32 33 rfl ?_
        refine g_ladd C dX2_sumOf_33 34 rfl ?_
        refine g_lstore_n C dX2_sumOf_34 [_, _, _, _, _, _] (Nat.le_of_ble_eq_true rfl) rfl rfl 35 rfl ?_
        refine g_iinc C dX2_sumOf_35 rfl 1 ic_1 [_, _, _, _, _, _] (Nat.le_of_ble_eq_true rfl) rfl rfl 38 rfl ?_
        refine g_goto C dX2_sumOf_38 9 (by decide) ?_
        refine g_lv [some (.ref h0), some (.int x1), some (.int x2), some (.long (x3 + (F (Int32.toNatClampNeg x5)))), none, some (.int (x5 + 1))] (lvLe.sm (lvLe.sm (lvLe.sm (lvLe.sm (lvLe.nn (lvLe.sm lvLe.nil)))))) ?_
        exact ih _ _ rv_ hR hk
def f_X2_sumOf (F : Nat → Int64) (p0 : Int32) (p1 : Int32) (N_ : Nat) : Option (Int64) :=
  (f_X2_sumOf_L9 p1 F N_ N_ 0 (if (0 : Int32) < p0 then p0 else (0 : Int32))).bind fun v1 =>
  some v1.1
set_option maxRecDepth 100000 in
set_option maxHeartbeats 4000000 in
theorem k_X2_sumOf (l : Launch) (g : gE) (h0 : Nat) (h1 : Nat) (F : Nat → Int64) (p0 : Int32) (p1 : Int32) (N_ : Nat) (R_ : Int64) (hR : f_X2_sumOf F p0 p1 N_ = some R_) : FnL l g yX2_sumOf wA_X2_sumOf { frames := 1, cells := 0, slots := 0, locals := 15 } [.ref h0, .int p0, .int p1] ([(h0, .inr (2, [.ref h1])), (h1, .inl (g.2.1 1, 5, .inr (.inl F)))]) R_ ([(h0, .inr (2, [.ref h1])), (h1, .inl (g.2.1 1, 5, .inr (.inl F)))]) := by
  refine fEntry (As := [.ref h0, .int p0, .int p1]) (maxL := 6) (ret := (some .long)) (by decide) rfl [some (.ref h0), some (.int p0), some (.int p1), none, none, none] (Nat.le_of_ble_eq_true rfl) (lvInB.to (lvInB.sm (lvInB.sm (lvInB.sm (lvInB.nn (lvInB.nn (lvInB.nn lvInB.nil))))))) ?_
  intro p e s m below meth c A C hr hlocks hname hA
  have C : Cx p s m _ c g A cX2_sumOf 6 wA_X2_sumOf RX2 := C
  rw [f_X2_sumOf] at hR
  refine g_lconst C dX2_sumOf_0 0 (by decide) 1 rfl ?_
  refine g_lstore_n C dX2_sumOf_1 [_, _, _, _, _, _] (Nat.le_of_ble_eq_true rfl) rfl rfl 2 rfl ?_
  refine g_iconst C dX2_sumOf_2 0 ic_0 3 rfl ?_
  refine g_iload_n C dX2_sumOf_3 rfl 4 rfl ?_
  refine g_max C (List.mem_cons_of_mem _ wl_428) (List.mem_cons_of_mem _ wl_117) (List.mem_cons_of_mem _ wl_118) (List.mem_cons_of_mem _ wl_119) (Nat.le_of_ble_eq_true rfl) (Nat.le_of_ble_eq_true rfl) ⟨Nat.zero_le _, Nat.zero_le _⟩ dX2_sumOf_4 7 rfl ?_
  refine g_istore C dX2_sumOf_7 [_, _, _, _, _, _] (Nat.le_of_ble_eq_true rfl) rfl rfl 9 rfl ?_
  refine g_lv [some (.ref h0), some (.int p0), some (.int p1), some (.long 0), none, some (.int (if (0 : Int32) < p0 then p0 else (0 : Int32)))] (lvLe.sm (lvLe.sm (lvLe.sm (lvLe.sm (lvLe.nn (lvLe.sm lvLe.nil)))))) ?_
  obtain ⟨v1, hv1, hR⟩ := opt_b hR
  refine k_X2_sumOf_L9 l g C N_ p0 p1 F N_ 0 (if (0 : Int32) < p0 then p0 else (0 : Int32)) _ hv1 ?_
  refine g_lload_n C dX2_sumOf_41 rfl 42 rfl ?_
  obtain rfl := Option.some.inj hR
  exact g_lret C hr hlocks hA (by first | (dsimp only; done) | rfl) (by first | (dsimp only; done) | rfl) dX2_sumOf_42
theorem hd_X2_sumOfAll : yX2_sumOfAll.cls = RX2 ∧ yX2_sumOfAll.cls ≠ "java/lang/invoke/MethodHandle" ∧ yX2_sumOfAll.cls ≠ "java/lang/invoke/VarHandle" ∧ (parseMethodDescriptor yX2_sumOfAll.desc).map (fun d => d.parameters.length) = some 0 := by decide +kernel
def f_X2_sumOfAll (F : Nat → Int64) (N_ : Nat) : Option (Int64) :=
  (f_X2_sumOf F 0 4 N_).bind fun v1 =>
  some v1
set_option maxRecDepth 100000 in
set_option maxHeartbeats 4000000 in
theorem k_X2_sumOfAll (l : Launch) (g : gE) (h0 : Nat) (h1 : Nat) (F : Nat → Int64) (N_ : Nat) (R_ : Int64) (hR : f_X2_sumOfAll F N_ = some R_) : FnL l g yX2_sumOfAll wA_X2_sumOfAll { frames := 2, cells := 0, slots := 0, locals := 40 } [.ref h0] ([(h0, .inr (2, [.ref h1])), (h1, .inl (g.2.1 1, 5, .inr (.inl F)))]) R_ ([(h0, .inr (2, [.ref h1])), (h1, .inl (g.2.1 1, 5, .inr (.inl F)))]) := by
  refine fEntry (As := [.ref h0]) (maxL := 1) (ret := (some .long)) (by decide) rfl [some (.ref h0)] (Nat.le_of_ble_eq_true rfl) (lvInB.to (lvInB.sm lvInB.nil)) ?_
  intro p e s m below meth c A C hr hlocks hname hA
  have C : Cx p s m _ c g A cX2_sumOfAll 1 wA_X2_sumOfAll RX2 := C
  rw [f_X2_sumOfAll] at hR
  refine g_aload_n C dX2_sumOfAll_0 rfl 1 rfl ?_
  refine g_iconst C dX2_sumOfAll_1 0 ic_0 2 rfl ?_
  refine g_iconst C dX2_sumOfAll_2 4 ic_4 3 rfl ?_
  obtain ⟨v1, hv1, hR⟩ := opt_b hR
  refine g_callLR C (rn_V C (k_X2_sumOf l g h0 h1 F 0 4 N_ v1 hv1) (cwV 2 C.1.2.2.2.2 (gdV wl_427 wl_424 wl_425 wl_426 wl_32) rfl rfl rfl hd_X2_sumOf ⟨Nat.le_of_ble_eq_true rfl, Nat.le_of_ble_eq_true rfl⟩) 0 rfl rfl [0, 1] rfl rfl rfl rfl (Nat.le_of_ble_eq_true rfl) ⟨Nat.zero_le _, Nat.zero_le _⟩ dX2_sumOfAll_3) 6 rfl ?_
  obtain rfl := Option.some.inj hR
  exact g_lret C hr hlocks hA (by first | (dsimp only; done) | rfl) (by first | (dsimp only; done) | rfl) dX2_sumOfAll_6
theorem hd_X2_narrow : yX2_narrow.cls = RX2 ∧ yX2_narrow.cls ≠ "java/lang/invoke/MethodHandle" ∧ yX2_narrow.cls ≠ "java/lang/invoke/VarHandle" ∧ (parseMethodDescriptor yX2_narrow.desc).map (fun d => d.parameters.length) = some 4 := by decide +kernel
def f_X2_narrow_s_L3 (x3 : Int32) (x4 : Int32) (kd : Int32) (N_ : Nat) : Nat → Int32 → (Nat → Int64) → Option (Int32 × (Nat → Int64))
  | 0, _, _ => none
  | n_ + 1, x5, F =>
    if 5 ≤ x5 then
      some (x5, F)
    else
      (f_X2_sumOf F x5 x5 N_).bind fun v3 =>
      if x4 = 1 then
        if x5 < 0 ∨ 5 ≤ (Int32.toNatClampNeg x5) then none else
        f_X2_narrow_s_L3 x3 x4 kd N_ n_ (x5 + 1) (vp_updL F (Int32.toNatClampNeg x5) (v3 * (Int32.toInt64 (f_X0_offTenths kd x3 x5))))
      else
        if x5 < 0 ∨ 5 ≤ (Int32.toNatClampNeg x5) then none else
        f_X2_narrow_s_L3 x3 x4 kd N_ n_ (x5 + 1) (vp_updL F (Int32.toNatClampNeg x5) (v3 * (Int32.toInt64 (10 - (f_X0_offTenths kd x3 x5)))))
set_option maxRecDepth 100000 in
set_option maxHeartbeats 4000000 in
theorem k_X2_narrow_s_L3 (l : Launch) (g : gE) {p : Program} {e : Env} {s : State} {m : MethodId} {args : Array Value} {below : List Frame} {meth : Method} {c : Code} {Q : State → Prop} {A : Nat → Prop} {h0 : Nat} {h1 : Nat} {h2 : Nat}  (C : Cx p s m args c g A cX2_narrow 7 wA_X2_narrow RX2) (N_ : Nat) (x3 : Int32) (x4 : Int32) (kd : Int32) (fg : Int32) (cp : Int32) (pt : Int32) : ∀ (n_ : Nat) (x5 : Int32) (F : Nat → Int64) (rv_ : Int32 × (Nat → Int64)), f_X2_narrow_s_L3 x3 x4 kd N_ n_ x5 F = some rv_ → (Gm p l e (headSpec wA_X2_narrow ({ frames := 3, cells := 0, slots := 0, locals := 59 } : Room)).room s m args below meth c Q g A 7 0 0 ([(h0, .inr (2, [.ref h1])), (h1, .inl (g.2.1 1, 5, .inr (.inl rv_.2))), (h2, .inr (0, [.int kd, .int fg, .int cp, .int pt]))]) [some (.ref h0), some (.ref h0), some (.ref h2), some (.int x3), some (.int x4), some (.int rv_.1), none] [] 61) → Gm p l e (headSpec wA_X2_narrow ({ frames := 3, cells := 0, slots := 0, locals := 59 } : Room)).room s m args below meth c Q g A 7 0 0 ([(h0, .inr (2, [.ref h1])), (h1, .inl (g.2.1 1, 5, .inr (.inl F))), (h2, .inr (0, [.int kd, .int fg, .int cp, .int pt]))]) [some (.ref h0), some (.ref h0), some (.ref h2), some (.int x3), some (.int x4), some (.int x5), none] [] 3 := by
  intro n_
  induction n_ with
  | zero =>
    intro x5 F rv_ hR
    simp [f_X2_narrow_s_L3] at hR
  | succ n_ ih =>
    intro x5 F rv_ hR hk
    rw [f_X2_narrow_s_L3] at hR
    refine g_iload C dX2_narrow_3 rfl 5 rfl ?_
    refine g_aload_n C dX2_narrow_5 rfl 6 rfl ?_
    refine g_get (v := .ref h1) C (hiC hiA_2) 0 rfl rfl 0 (by decide) (List.mem_cons_of_mem _ wl_61) rfl rfl dX2_narrow_6 9 rfl ?_
    refine g_alen C 1 1 rfl rfl 5 (show Int32.ofNat 5 = 5 by decide) dX2_narrow_9 10 rfl ?_
    refine g_icmp_ge C dX2_narrow_10 hR 61 13 (by decide) rfl (fun c_10 hR => ?_) (fun c_10 hR => ?_)
    · obtain rfl := Option.some.inj hR
      refine g_lv [some (.ref h0), some (.ref h0), some (.ref h2), some (.int x3), some (.int x4), some (.int x5), none] (lvLe.sm (lvLe.sm (lvLe.sm (lvLe.sm (lvLe.sm (lvLe.sm (lvLe.nn lvLe.nil))))))) ?_
      exact hk
    · refine g_aload_n C dX2_narrow_13 rfl 14 rfl ?_
      refine g_iload_n C dX2_narrow_14 rfl 15 rfl ?_
      refine g_iload C dX2_narrow_15 rfl 17 rfl ?_
      refine g_callIR C (rn_VN C (k_X0_offTenths l g h2 kd fg cp pt x3 x5) ⟨va_cnB 2 C.1.2.2.2.2 (gdA wl_420) rfl rfl rfl (nst C (List.mem_of_getElem? (i := 46) rfl)) (C.1.2.2.2.2 _ (List.mem_cons_of_mem _ wl_27)) hd_X0_offTenths.2 ⟨Nat.le_of_ble_eq_true rfl, Nat.le_of_ble_eq_true rfl⟩, C.1.2.2.2.2 _ (List.mem_cons_of_mem _ wl_418), C.1.2.2.2.2 _ (List.mem_cons_of_mem _ wl_419)⟩ 2 rfl rfl [2] rfl rfl rfl rfl (Nat.le_of_ble_eq_true rfl) ⟨Nat.zero_le _, Nat.zero_le _⟩ dX2_narrow_17) 20 rfl ?_
      refine g_istore C dX2_narrow_20 [_, _, _, _, _, _, _] (Nat.le_of_ble_eq_true rfl) rfl rfl 22 rfl ?_
      refine g_aload_n C dX2_narrow_22 rfl 23 rfl ?_
      refine g_get (v := .ref h1) C (hiC hiA_2) 0 rfl rfl 0 (by decide) (List.mem_cons_of_mem _ wl_61) rfl rfl dX2_narrow_23 26 rfl ?_
      refine g_iload C dX2_narrow_26 rfl 28 rfl ?_
      refine g_aload_n C dX2_narrow_28 rfl 29 rfl ?_
      refine g_iload C dX2_narrow_29 rfl 31 rfl ?_
      refine g_iload C dX2_narrow_31 rfl 33 rfl ?_
      obtain ⟨v3, hv3, hR⟩ := opt_b hR
      refine g_callLR C (rn_V C (k_X2_sumOf l g h0 h1 F x5 x5 N_ v3 hv3) (cwV 2 C.1.2.2.2.2 (gdV wl_427 wl_424 wl_425 wl_426 wl_32) rfl rfl rfl hd_X2_sumOf ⟨Nat.le_of_ble_eq_true rfl, Nat.le_of_ble_eq_true rfl⟩) 0 rfl rfl [0, 1] rfl rfl rfl rfl (Nat.le_of_ble_eq_true rfl) ⟨Nat.zero_le _, Nat.zero_le _⟩ dX2_narrow_33) 36 rfl ?_
      refine g_iload C dX2_narrow_36 rfl 38 rfl ?_
      refine g_iconst C dX2_narrow_38 1 ic_1 39 rfl ?_
      refine g_icmp_ne C dX2_narrow_39 hR 47 42 (by decide) rfl (fun c_39 hR => ?_) (fun c_39 hR => ?_)
      · refine g_bipush C dX2_narrow_47 10 bp_10 49 rfl ?_
        refine g_iload C dX2_narrow_49 rfl 51 rfl ?_
        refine g_isub C dX2_narrow_51 52 rfl ?_
        refine g_i2l C dX2_narrow_52 53 rfl ?_
        refine g_lmul C dX2_narrow_53 54 rfl ?_
        obtain ⟨h_54, hR⟩ := opt_n hR
        refine g_last (f := F) C 1 rfl h_54 dX2_narrow_54 ([(h0, .inr (2, [.ref h1])), (h1, .inl (g.2.1 1, 5, .inr (.inl (vp_updL F (Int32.toNatClampNeg x5) (v3 * (Int32.toInt64 (10 - (f_X0_offTenths kd x3 x5)))))))), (h2, .inr (0, [.int kd, .int fg, .int cp, .int pt]))]) rfl 55 rfl ?_
        refine g_iinc C dX2_narrow_55 rfl 1 ic_1 [_, _, _, _, _, _, _] (Nat.le_of_ble_eq_true rfl) rfl rfl 58 rfl ?_
        refine g_goto C dX2_narrow_58 3 (by decide) ?_
        refine g_lv [some (.ref h0), some (.ref h0), some (.ref h2), some (.int x3), some (.int x4), some (.int (x5 + 1)), none] (lvLe.sm (lvLe.sm (lvLe.sm (lvLe.sm (lvLe.sm (lvLe.sm (lvLe.nn lvLe.nil))))))) ?_
        exact ih _ _ rv_ hR hk
      · refine g_iload C dX2_narrow_42 rfl 44 rfl ?_
        refine g_goto C dX2_narrow_44 52 (by decide) ?_
        refine g_i2l C dX2_narrow_52 53 rfl ?_
        refine g_lmul C dX2_narrow_53 54 rfl ?_
        obtain ⟨h_54, hR⟩ := opt_n hR
        refine g_last (f := F) C 1 rfl h_54 dX2_narrow_54 ([(h0, .inr (2, [.ref h1])), (h1, .inl (g.2.1 1, 5, .inr (.inl (vp_updL F (Int32.toNatClampNeg x5) (v3 * (Int32.toInt64 (f_X0_offTenths kd x3 x5))))))), (h2, .inr (0, [.int kd, .int fg, .int cp, .int pt]))]) rfl 55 rfl ?_
        refine g_iinc C dX2_narrow_55 rfl 1 ic_1 [_, _, _, _, _, _, _] (Nat.le_of_ble_eq_true rfl) rfl rfl 58 rfl ?_
        refine g_goto C dX2_narrow_58 3 (by decide) ?_
        refine g_lv [some (.ref h0), some (.ref h0), some (.ref h2), some (.int x3), some (.int x4), some (.int (x5 + 1)), none] (lvLe.sm (lvLe.sm (lvLe.sm (lvLe.sm (lvLe.sm (lvLe.sm (lvLe.nn lvLe.nil))))))) ?_
        exact ih _ _ rv_ hR hk
def f_X2_narrow_s (F : Nat → Int64) (kd : Int32) (p0 : Int32) (p1 : Int32) (N_ : Nat) : Option ((Nat → Int64)) :=
  (f_X2_narrow_s_L3 p0 p1 kd N_ N_ 0 F).bind fun v4 =>
  some v4.2
set_option maxRecDepth 100000 in
set_option maxHeartbeats 4000000 in
theorem k_X2_narrow_s (l : Launch) (g : gE) (h0 : Nat) (h1 : Nat) (h2 : Nat) (F : Nat → Int64) (kd : Int32) (fg : Int32) (cp : Int32) (pt : Int32) (p0 : Int32) (p1 : Int32) (N_ : Nat) (R_ : (Nat → Int64)) (hR : f_X2_narrow_s F kd p0 p1 N_ = some R_) : FnV l g yX2_narrow wA_X2_narrow { frames := 3, cells := 0, slots := 0, locals := 59 } [.ref h0, .ref h0, .ref h2, .int p0, .int p1] ([(h0, .inr (2, [.ref h1])), (h1, .inl (g.2.1 1, 5, .inr (.inl F))), (h2, .inr (0, [.int kd, .int fg, .int cp, .int pt]))])  ([(h0, .inr (2, [.ref h1])), (h1, .inl (g.2.1 1, 5, .inr (.inl R_))), (h2, .inr (0, [.int kd, .int fg, .int cp, .int pt]))]) := by
  refine fEntry (As := [.ref h0, .ref h0, .ref h2, .int p0, .int p1]) (maxL := 7) (ret := none) (by decide) rfl [some (.ref h0), some (.ref h0), some (.ref h2), some (.int p0), some (.int p1), none, none] (Nat.le_of_ble_eq_true rfl) (lvInB.to (lvInB.sm (lvInB.sm (lvInB.sm (lvInB.sm (lvInB.sm (lvInB.nn (lvInB.nn lvInB.nil)))))))) ?_
  intro p e s m below meth c A C hr hlocks hname hA
  have C : Cx p s m _ c g A cX2_narrow 7 wA_X2_narrow RX2 := C
  rw [f_X2_narrow_s] at hR
  refine g_iconst C dX2_narrow_0 0 ic_0 1 rfl ?_
  refine g_istore C dX2_narrow_1 [_, _, _, _, _, _, _] (Nat.le_of_ble_eq_true rfl) rfl rfl 3 rfl ?_
  refine g_lv [some (.ref h0), some (.ref h0), some (.ref h2), some (.int p0), some (.int p1), some (.int 0), none] (lvLe.sm (lvLe.sm (lvLe.sm (lvLe.sm (lvLe.sm (lvLe.sm (lvLe.nn lvLe.nil))))))) ?_
  obtain ⟨v4, hv4, hR⟩ := opt_b hR
  refine k_X2_narrow_s_L3 l g C N_ p0 p1 kd fg cp pt N_ 0 F _ hv4 ?_
  obtain rfl := Option.some.inj hR
  exact g_vret C hr hlocks hA (by first | (dsimp only; done) | rfl) dX2_narrow_61
def f_X2_narrow_L3 (x3 : Int32) (x4 : Int32) (F1 : Nat → Int64) (kd : Int32) (N_ : Nat) : Nat → Int32 → (Nat → Int64) → Option (Int32 × (Nat → Int64))
  | 0, _, _ => none
  | n_ + 1, x5, F =>
    if 5 ≤ x5 then
      some (x5, F)
    else
      (f_X2_sumOf F1 x5 x5 N_).bind fun v3 =>
      if x4 = 1 then
        if x5 < 0 ∨ 5 ≤ (Int32.toNatClampNeg x5) then none else
        f_X2_narrow_L3 x3 x4 F1 kd N_ n_ (x5 + 1) (vp_updL F (Int32.toNatClampNeg x5) (v3 * (Int32.toInt64 (f_X0_offTenths kd x3 x5))))
      else
        if x5 < 0 ∨ 5 ≤ (Int32.toNatClampNeg x5) then none else
        f_X2_narrow_L3 x3 x4 F1 kd N_ n_ (x5 + 1) (vp_updL F (Int32.toNatClampNeg x5) (v3 * (Int32.toInt64 (10 - (f_X0_offTenths kd x3 x5)))))
set_option maxRecDepth 100000 in
set_option maxHeartbeats 4000000 in
theorem k_X2_narrow_L3 (l : Launch) (g : gE) {p : Program} {e : Env} {s : State} {m : MethodId} {args : Array Value} {below : List Frame} {meth : Method} {c : Code} {Q : State → Prop} {A : Nat → Prop} {h0 : Nat} {h1 : Nat} {h2 : Nat} {h3 : Nat} {h4 : Nat}  (C : Cx p s m args c g A cX2_narrow 7 wA_X2_narrow RX2) (N_ : Nat) (x3 : Int32) (x4 : Int32) (F1 : Nat → Int64) (kd : Int32) (fg : Int32) (cp : Int32) (pt : Int32) : ∀ (n_ : Nat) (x5 : Int32) (F : Nat → Int64) (rv_ : Int32 × (Nat → Int64)), f_X2_narrow_L3 x3 x4 F1 kd N_ n_ x5 F = some rv_ → (Gm p l e (headSpec wA_X2_narrow ({ frames := 3, cells := 0, slots := 0, locals := 59 } : Room)).room s m args below meth c Q g A 7 0 0 ([(h0, .inr (2, [.ref h1])), (h1, .inl (g.2.1 1, 5, .inr (.inl rv_.2))), (h3, .inr (2, [.ref h4])), (h4, .inl (g.2.1 1, 5, .inr (.inl F1))), (h2, .inr (0, [.int kd, .int fg, .int cp, .int pt]))]) [some (.ref h0), some (.ref h3), some (.ref h2), some (.int x3), some (.int x4), some (.int rv_.1), none] [] 61) → Gm p l e (headSpec wA_X2_narrow ({ frames := 3, cells := 0, slots := 0, locals := 59 } : Room)).room s m args below meth c Q g A 7 0 0 ([(h0, .inr (2, [.ref h1])), (h1, .inl (g.2.1 1, 5, .inr (.inl F))), (h3, .inr (2, [.ref h4])), (h4, .inl (g.2.1 1, 5, .inr (.inl F1))), (h2, .inr (0, [.int kd, .int fg, .int cp, .int pt]))]) [some (.ref h0), some (.ref h3), some (.ref h2), some (.int x3), some (.int x4), some (.int x5), none] [] 3 := by
  intro n_
  induction n_ with
  | zero =>
    intro x5 F rv_ hR
    simp [f_X2_narrow_L3] at hR
  | succ n_ ih =>
    intro x5 F rv_ hR hk
    rw [f_X2_narrow_L3] at hR
    refine g_iload C dX2_narrow_3 rfl 5 rfl ?_
    refine g_aload_n C dX2_narrow_5 rfl 6 rfl ?_
    refine g_get (v := .ref h1) C (hiC hiA_2) 0 rfl rfl 0 (by decide) (List.mem_cons_of_mem _ wl_61) rfl rfl dX2_narrow_6 9 rfl ?_
    refine g_alen C 1 1 rfl rfl 5 (show Int32.ofNat 5 = 5 by decide) dX2_narrow_9 10 rfl ?_
    refine g_icmp_ge C dX2_narrow_10 hR 61 13 (by decide) rfl (fun c_10 hR => ?_) (fun c_10 hR => ?_)
    · obtain rfl := Option.some.inj hR
      refine g_lv [some (.ref h0), some (.ref h3), some (.ref h2), some (.int x3), some (.int x4), some (.int x5), none] (lvLe.sm (lvLe.sm (lvLe.sm (lvLe.sm (lvLe.sm (lvLe.sm (lvLe.nn lvLe.nil))))))) ?_
      exact hk
    · refine g_aload_n C dX2_narrow_13 rfl 14 rfl ?_
      refine g_iload_n C dX2_narrow_14 rfl 15 rfl ?_
      refine g_iload C dX2_narrow_15 rfl 17 rfl ?_
      refine g_callIR C (rn_VN C (k_X0_offTenths l g h2 kd fg cp pt x3 x5) ⟨va_cnB 2 C.1.2.2.2.2 (gdA wl_420) rfl rfl rfl (nst C (List.mem_of_getElem? (i := 46) rfl)) (C.1.2.2.2.2 _ (List.mem_cons_of_mem _ wl_27)) hd_X0_offTenths.2 ⟨Nat.le_of_ble_eq_true rfl, Nat.le_of_ble_eq_true rfl⟩, C.1.2.2.2.2 _ (List.mem_cons_of_mem _ wl_418), C.1.2.2.2.2 _ (List.mem_cons_of_mem _ wl_419)⟩ 4 rfl rfl [4] rfl rfl rfl rfl (Nat.le_of_ble_eq_true rfl) ⟨Nat.zero_le _, Nat.zero_le _⟩ dX2_narrow_17) 20 rfl ?_
      refine g_istore C dX2_narrow_20 [_, _, _, _, _, _, _] (Nat.le_of_ble_eq_true rfl) rfl rfl 22 rfl ?_
      refine g_aload_n C dX2_narrow_22 rfl 23 rfl ?_
      refine g_get (v := .ref h1) C (hiC hiA_2) 0 rfl rfl 0 (by decide) (List.mem_cons_of_mem _ wl_61) rfl rfl dX2_narrow_23 26 rfl ?_
      refine g_iload C dX2_narrow_26 rfl 28 rfl ?_
      refine g_aload_n C dX2_narrow_28 rfl 29 rfl ?_
      refine g_iload C dX2_narrow_29 rfl 31 rfl ?_
      refine g_iload C dX2_narrow_31 rfl 33 rfl ?_
      obtain ⟨v3, hv3, hR⟩ := opt_b hR
      refine g_callLR C (rn_V C (k_X2_sumOf l g h3 h4 F1 x5 x5 N_ v3 hv3) (cwV 2 C.1.2.2.2.2 (gdV wl_427 wl_424 wl_425 wl_426 wl_32) rfl rfl rfl hd_X2_sumOf ⟨Nat.le_of_ble_eq_true rfl, Nat.le_of_ble_eq_true rfl⟩) 2 rfl rfl [2, 3] rfl rfl rfl rfl (Nat.le_of_ble_eq_true rfl) ⟨Nat.zero_le _, Nat.zero_le _⟩ dX2_narrow_33) 36 rfl ?_
      refine g_iload C dX2_narrow_36 rfl 38 rfl ?_
      refine g_iconst C dX2_narrow_38 1 ic_1 39 rfl ?_
      refine g_icmp_ne C dX2_narrow_39 hR 47 42 (by decide) rfl (fun c_39 hR => ?_) (fun c_39 hR => ?_)
      · refine g_bipush C dX2_narrow_47 10 bp_10 49 rfl ?_
        refine g_iload C dX2_narrow_49 rfl 51 rfl ?_
        refine g_isub C dX2_narrow_51 52 rfl ?_
        refine g_i2l C dX2_narrow_52 53 rfl ?_
        refine g_lmul C dX2_narrow_53 54 rfl ?_
        obtain ⟨h_54, hR⟩ := opt_n hR
        refine g_last (f := F) C 1 rfl h_54 dX2_narrow_54 ([(h0, .inr (2, [.ref h1])), (h1, .inl (g.2.1 1, 5, .inr (.inl (vp_updL F (Int32.toNatClampNeg x5) (v3 * (Int32.toInt64 (10 - (f_X0_offTenths kd x3 x5)))))))), (h3, .inr (2, [.ref h4])), (h4, .inl (g.2.1 1, 5, .inr (.inl F1))), (h2, .inr (0, [.int kd, .int fg, .int cp, .int pt]))]) rfl 55 rfl ?_
        refine g_iinc C dX2_narrow_55 rfl 1 ic_1 [_, _, _, _, _, _, _] (Nat.le_of_ble_eq_true rfl) rfl rfl 58 rfl ?_
        refine g_goto C dX2_narrow_58 3 (by decide) ?_
        refine g_lv [some (.ref h0), some (.ref h3), some (.ref h2), some (.int x3), some (.int x4), some (.int (x5 + 1)), none] (lvLe.sm (lvLe.sm (lvLe.sm (lvLe.sm (lvLe.sm (lvLe.sm (lvLe.nn lvLe.nil))))))) ?_
        exact ih _ _ rv_ hR hk
      · refine g_iload C dX2_narrow_42 rfl 44 rfl ?_
        refine g_goto C dX2_narrow_44 52 (by decide) ?_
        refine g_i2l C dX2_narrow_52 53 rfl ?_
        refine g_lmul C dX2_narrow_53 54 rfl ?_
        obtain ⟨h_54, hR⟩ := opt_n hR
        refine g_last (f := F) C 1 rfl h_54 dX2_narrow_54 ([(h0, .inr (2, [.ref h1])), (h1, .inl (g.2.1 1, 5, .inr (.inl (vp_updL F (Int32.toNatClampNeg x5) (v3 * (Int32.toInt64 (f_X0_offTenths kd x3 x5))))))), (h3, .inr (2, [.ref h4])), (h4, .inl (g.2.1 1, 5, .inr (.inl F1))), (h2, .inr (0, [.int kd, .int fg, .int cp, .int pt]))]) rfl 55 rfl ?_
        refine g_iinc C dX2_narrow_55 rfl 1 ic_1 [_, _, _, _, _, _, _] (Nat.le_of_ble_eq_true rfl) rfl rfl 58 rfl ?_
        refine g_goto C dX2_narrow_58 3 (by decide) ?_
        refine g_lv [some (.ref h0), some (.ref h3), some (.ref h2), some (.int x3), some (.int x4), some (.int (x5 + 1)), none] (lvLe.sm (lvLe.sm (lvLe.sm (lvLe.sm (lvLe.sm (lvLe.sm (lvLe.nn lvLe.nil))))))) ?_
        exact ih _ _ rv_ hR hk
def f_X2_narrow (F : Nat → Int64) (F1 : Nat → Int64) (kd : Int32) (p0 : Int32) (p1 : Int32) (N_ : Nat) : Option ((Nat → Int64)) :=
  (f_X2_narrow_L3 p0 p1 F1 kd N_ N_ 0 F).bind fun v4 =>
  some v4.2
set_option maxRecDepth 100000 in
set_option maxHeartbeats 4000000 in
theorem k_X2_narrow (l : Launch) (g : gE) (h0 : Nat) (h1 : Nat) (h2 : Nat) (h3 : Nat) (h4 : Nat) (F : Nat → Int64) (F1 : Nat → Int64) (kd : Int32) (fg : Int32) (cp : Int32) (pt : Int32) (p0 : Int32) (p1 : Int32) (N_ : Nat) (R_ : (Nat → Int64)) (hR : f_X2_narrow F F1 kd p0 p1 N_ = some R_) : FnV l g yX2_narrow wA_X2_narrow { frames := 3, cells := 0, slots := 0, locals := 59 } [.ref h0, .ref h3, .ref h2, .int p0, .int p1] ([(h0, .inr (2, [.ref h1])), (h1, .inl (g.2.1 1, 5, .inr (.inl F))), (h3, .inr (2, [.ref h4])), (h4, .inl (g.2.1 1, 5, .inr (.inl F1))), (h2, .inr (0, [.int kd, .int fg, .int cp, .int pt]))])  ([(h0, .inr (2, [.ref h1])), (h1, .inl (g.2.1 1, 5, .inr (.inl R_))), (h3, .inr (2, [.ref h4])), (h4, .inl (g.2.1 1, 5, .inr (.inl F1))), (h2, .inr (0, [.int kd, .int fg, .int cp, .int pt]))]) := by
  refine fEntry (As := [.ref h0, .ref h3, .ref h2, .int p0, .int p1]) (maxL := 7) (ret := none) (by decide) rfl [some (.ref h0), some (.ref h3), some (.ref h2), some (.int p0), some (.int p1), none, none] (Nat.le_of_ble_eq_true rfl) (lvInB.to (lvInB.sm (lvInB.sm (lvInB.sm (lvInB.sm (lvInB.sm (lvInB.nn (lvInB.nn lvInB.nil)))))))) ?_
  intro p e s m below meth c A C hr hlocks hname hA
  have C : Cx p s m _ c g A cX2_narrow 7 wA_X2_narrow RX2 := C
  rw [f_X2_narrow] at hR
  refine g_iconst C dX2_narrow_0 0 ic_0 1 rfl ?_
  refine g_istore C dX2_narrow_1 [_, _, _, _, _, _, _] (Nat.le_of_ble_eq_true rfl) rfl rfl 3 rfl ?_
  refine g_lv [some (.ref h0), some (.ref h3), some (.ref h2), some (.int p0), some (.int p1), some (.int 0), none] (lvLe.sm (lvLe.sm (lvLe.sm (lvLe.sm (lvLe.sm (lvLe.sm (lvLe.nn lvLe.nil))))))) ?_
  obtain ⟨v4, hv4, hR⟩ := opt_b hR
  refine k_X2_narrow_L3 l g C N_ p0 p1 F1 kd fg cp pt N_ 0 F _ hv4 ?_
  obtain rfl := Option.some.inj hR
  exact g_vret C hr hlocks hA (by first | (dsimp only; done) | rfl) dX2_narrow_61
theorem hd_X2_times : yX2_times.cls = RX2 ∧ yX2_times.cls ≠ "java/lang/invoke/MethodHandle" ∧ yX2_times.cls ≠ "java/lang/invoke/VarHandle" ∧ (parseMethodDescriptor yX2_times.desc).map (fun d => d.parameters.length) = some 2 := by decide +kernel
def f_X2_times (F : Nat → Int64) (p0 : Int32) (p1 : Int32) : (Nat → Int64) :=
  if (b2i (f_X3_isOneOf p0 5)) = 0 then
    F
  else
    (vp_updL F (Int32.toNatClampNeg p0) ((F (Int32.toNatClampNeg p0)) * (Int32.toInt64 p1)))
set_option maxRecDepth 100000 in
set_option maxHeartbeats 4000000 in
theorem k_X2_times (l : Launch) (g : gE) (h0 : Nat) (h1 : Nat) (F : Nat → Int64) (p0 : Int32) (p1 : Int32) : FnV l g yX2_times wA_X2_times { frames := 1, cells := 0, slots := 0, locals := 21 } [.ref h0, .int p0, .int p1] ([(h0, .inr (2, [.ref h1])), (h1, .inl (g.2.1 1, 5, .inr (.inl F)))])  ([(h0, .inr (2, [.ref h1])), (h1, .inl (g.2.1 1, 5, .inr (.inl (f_X2_times F p0 p1))))]) := by
  generalize hR : f_X2_times F p0 p1 = R_
  refine fEntry (As := [.ref h0, .int p0, .int p1]) (maxL := 3) (ret := none) (by decide) rfl [some (.ref h0), some (.int p0), some (.int p1)] (Nat.le_of_ble_eq_true rfl) (lvInB.to (lvInB.sm (lvInB.sm (lvInB.sm lvInB.nil)))) ?_
  intro p e s m below meth c A C hr hlocks hname hA
  have C : Cx p s m _ c g A cX2_times 3 wA_X2_times RX2 := C
  rw [f_X2_times] at hR
  refine g_iload_n C dX2_times_0 rfl 1 rfl ?_
  refine g_aload_n C dX2_times_1 rfl 2 rfl ?_
  refine g_get (v := .ref h1) C (hiC hiA_2) 0 rfl rfl 0 (by decide) (List.mem_cons_of_mem _ wl_61) rfl rfl dX2_times_2 5 rfl ?_
  refine g_alen C 1 1 rfl rfl 5 (show Int32.ofNat 5 = 5 by decide) dX2_times_5 6 rfl ?_
  refine g_callIR C (rn_SN C (k_X3_isOneOf l g p0 5) ⟨va_cnB 2 C.1.2.2.2.2 (gdA wl_95) rfl rfl rfl (nst C (List.mem_of_getElem? (i := 47) rfl)) (C.1.2.2.2.2 _ (List.mem_cons_of_mem _ wl_2)) hd_X3_isOneOf.2 ⟨Nat.le_of_ble_eq_true rfl, Nat.le_of_ble_eq_true rfl⟩, C.1.2.2.2.2 _ (List.mem_cons_of_mem _ wl_94), trivial⟩ [] rfl rfl rfl rfl (Nat.le_of_ble_eq_true rfl) ⟨Nat.zero_le _, Nat.zero_le _⟩ dX2_times_6) 9 rfl ?_
  refine g_if_eq C dX2_times_9 hR 23 12 (by decide) rfl (fun c_9 hR => ?_) (fun c_9 hR => ?_)
  · subst hR
    exact g_vret C hr hlocks hA (by first | (dsimp only; done) | rfl) dX2_times_23
  · refine g_aload_n C dX2_times_12 rfl 13 rfl ?_
    refine g_get (v := .ref h1) C (hiC hiA_2) 0 rfl rfl 0 (by decide) (List.mem_cons_of_mem _ wl_61) rfl rfl dX2_times_13 16 rfl ?_
    refine g_iload_n C dX2_times_16 rfl 17 rfl ?_
    refine g_dup2 C dX2_times_17 rfl rfl 18 rfl ?_
    refine g_lald (f := F) C 1 rfl (one_in c_9 (by decide)) dX2_times_18 19 rfl ?_
    refine g_iload_n C dX2_times_19 rfl 20 rfl ?_
    refine g_i2l C dX2_times_20 21 rfl ?_
    refine g_lmul C dX2_times_21 22 rfl ?_
    refine g_last (f := F) C 1 rfl (one_in c_9 (by decide)) dX2_times_22 ([(h0, .inr (2, [.ref h1])), (h1, .inl (g.2.1 1, 5, .inr (.inl (vp_updL F (Int32.toNatClampNeg p0) ((F (Int32.toNatClampNeg p0)) * (Int32.toInt64 p1))))))]) rfl 23 rfl ?_
    subst hR
    exact g_vret C hr hlocks hA (by first | (dsimp only; done) | rfl) dX2_times_23
theorem hd_X2_worseOf : yX2_worseOf.cls = RX2 ∧ yX2_worseOf.cls ≠ "java/lang/invoke/MethodHandle" ∧ yX2_worseOf.cls ≠ "java/lang/invoke/VarHandle" ∧ (parseMethodDescriptor yX2_worseOf.desc).map (fun d => d.parameters.length) = some 2 := by decide +kernel
def f_X2_worseOf_L2 (F1 : Nat → Int64) (F2 : Nat → Int64) (N_ : Nat) : Nat → Int32 → (Nat → Int64) → Option (Int32 × (Nat → Int64))
  | 0, _, _ => none
  | n_ + 1, x3, F =>
    if 5 ≤ x3 then
      some (x3, F)
    else
      (f_X2_sumOf F1 0 x3 N_).bind fun v9 =>
      (f_X2_sumOf F2 0 x3 N_).bind fun v10 =>
      (f_X2_sumOf F1 0 (x3 - 1) N_).bind fun v11 =>
      (f_X2_sumOf F2 0 (x3 - 1) N_).bind fun v12 =>
      if x3 < 0 ∨ 5 ≤ (Int32.toNatClampNeg x3) then none else
      f_X2_worseOf_L2 F1 F2 N_ n_ (x3 + 1) (vp_updL F (Int32.toNatClampNeg x3) ((v9 * v10) - (v11 * v12)))
set_option maxRecDepth 100000 in
set_option maxHeartbeats 4000000 in
theorem k_X2_worseOf_L2 (l : Launch) (g : gE) {p : Program} {e : Env} {s : State} {m : MethodId} {args : Array Value} {below : List Frame} {meth : Method} {c : Code} {Q : State → Prop} {A : Nat → Prop} {h0 : Nat} {h1 : Nat} {h2 : Nat} {h3 : Nat} {h4 : Nat} {h5 : Nat}  (C : Cx p s m args c g A cX2_worseOf 4 wA_X2_worseOf RX2) (N_ : Nat) (F1 : Nat → Int64) (F2 : Nat → Int64) : ∀ (n_ : Nat) (x3 : Int32) (F : Nat → Int64) (rv_ : Int32 × (Nat → Int64)), f_X2_worseOf_L2 F1 F2 N_ n_ x3 F = some rv_ → (Gm p l e (headSpec wA_X2_worseOf ({ frames := 2, cells := 0, slots := 0, locals := 40 } : Room)).room s m args below meth c Q g A 4 0 0 ([(h0, .inr (2, [.ref h1])), (h1, .inl (g.2.1 1, 5, .inr (.inl rv_.2))), (h2, .inr (2, [.ref h3])), (h3, .inl (g.2.1 1, 5, .inr (.inl F1))), (h4, .inr (2, [.ref h5])), (h5, .inl (g.2.1 1, 5, .inr (.inl F2)))]) [some (.ref h0), some (.ref h2), some (.ref h4), some (.int rv_.1)] [] 54) → Gm p l e (headSpec wA_X2_worseOf ({ frames := 2, cells := 0, slots := 0, locals := 40 } : Room)).room s m args below meth c Q g A 4 0 0 ([(h0, .inr (2, [.ref h1])), (h1, .inl (g.2.1 1, 5, .inr (.inl F))), (h2, .inr (2, [.ref h3])), (h3, .inl (g.2.1 1, 5, .inr (.inl F1))), (h4, .inr (2, [.ref h5])), (h5, .inl (g.2.1 1, 5, .inr (.inl F2)))]) [some (.ref h0), some (.ref h2), some (.ref h4), some (.int x3)] [] 2 := by
  intro n_
  induction n_ with
  | zero =>
    intro x3 F rv_ hR
    simp [f_X2_worseOf_L2] at hR
  | succ n_ ih =>
    intro x3 F rv_ hR hk
    rw [f_X2_worseOf_L2] at hR
    refine g_iload_n C dX2_worseOf_2 rfl 3 rfl ?_
    refine g_aload_n C dX2_worseOf_3 rfl 4 rfl ?_
    refine g_get (v := .ref h1) C (hiC hiA_2) 0 rfl rfl 0 (by decide) (List.mem_cons_of_mem _ wl_61) rfl rfl dX2_worseOf_4 7 rfl ?_
    refine g_alen C 1 1 rfl rfl 5 (show Int32.ofNat 5 = 5 by decide) dX2_worseOf_7 8 rfl ?_
    refine g_icmp_ge C dX2_worseOf_8 hR 54 11 (by decide) rfl (fun c_8 hR => ?_) (fun c_8 hR => ?_)
    · obtain rfl := Option.some.inj hR
      refine g_lv [some (.ref h0), some (.ref h2), some (.ref h4), some (.int x3)] (lvLe.sm (lvLe.sm (lvLe.sm (lvLe.sm lvLe.nil)))) ?_
      exact hk
    · refine g_aload_n C dX2_worseOf_11 rfl 12 rfl ?_
      refine g_get (v := .ref h1) C (hiC hiA_2) 0 rfl rfl 0 (by decide) (List.mem_cons_of_mem _ wl_61) rfl rfl dX2_worseOf_12 15 rfl ?_
      refine g_iload_n C dX2_worseOf_15 rfl 16 rfl ?_
      refine g_aload_n C dX2_worseOf_16 rfl 17 rfl ?_
      refine g_iconst C dX2_worseOf_17 0 ic_0 18 rfl ?_
      refine g_iload_n C dX2_worseOf_18 rfl 19 rfl ?_
      obtain ⟨v9, hv9, hR⟩ := opt_b hR
      refine g_callLR C (rn_V C (k_X2_sumOf l g h2 h3 F1 0 x3 N_ v9 hv9) (cwV 2 C.1.2.2.2.2 (gdV wl_427 wl_424 wl_425 wl_426 wl_32) rfl rfl rfl hd_X2_sumOf ⟨Nat.le_of_ble_eq_true rfl, Nat.le_of_ble_eq_true rfl⟩) 2 rfl rfl [2, 3] rfl rfl rfl rfl (Nat.le_of_ble_eq_true rfl) ⟨Nat.zero_le _, Nat.zero_le _⟩ dX2_worseOf_19) 22 rfl ?_
      refine g_aload_n C dX2_worseOf_22 rfl 23 rfl ?_
      refine g_iconst C dX2_worseOf_23 0 ic_0 24 rfl ?_
      refine g_iload_n C dX2_worseOf_24 rfl 25 rfl ?_
      obtain ⟨v10, hv10, hR⟩ := opt_b hR
      refine g_callLR C (rn_V C (k_X2_sumOf l g h4 h5 F2 0 x3 N_ v10 hv10) (cwV 2 C.1.2.2.2.2 (gdV wl_427 wl_424 wl_425 wl_426 wl_32) rfl rfl rfl hd_X2_sumOf ⟨Nat.le_of_ble_eq_true rfl, Nat.le_of_ble_eq_true rfl⟩) 4 rfl rfl [4, 5] rfl rfl rfl rfl (Nat.le_of_ble_eq_true rfl) ⟨Nat.zero_le _, Nat.zero_le _⟩ dX2_worseOf_25) 28 rfl ?_
      refine g_lmul C dX2_worseOf_28 29 rfl ?_
      refine g_aload_n C dX2_worseOf_29 rfl 30 rfl ?_
      refine g_iconst C dX2_worseOf_30 0 ic_0 31 rfl ?_
      refine g_iload_n C dX2_worseOf_31 rfl 32 rfl ?_
      refine g_iconst C dX2_worseOf_32 1 ic_1 33 rfl ?_
      refine g_isub C dX2_worseOf_33 34 rfl ?_
      obtain ⟨v11, hv11, hR⟩ := opt_b hR
      refine g_callLR C (rn_V C (k_X2_sumOf l g h2 h3 F1 0 (x3 - 1) N_ v11 hv11) (cwV 2 C.1.2.2.2.2 (gdV wl_427 wl_424 wl_425 wl_426 wl_32) rfl rfl rfl hd_X2_sumOf ⟨Nat.le_of_ble_eq_true rfl, Nat.le_of_ble_eq_true rfl⟩) 2 rfl rfl [2, 3] rfl rfl rfl rfl (Nat.le_of_ble_eq_true rfl) ⟨Nat.zero_le _, Nat.zero_le _⟩ dX2_worseOf_34) 37 rfl ?_
      refine g_aload_n C dX2_worseOf_37 rfl 38 rfl ?_
      refine g_iconst C dX2_worseOf_38 0 ic_0 39 rfl ?_
      refine g_iload_n C dX2_worseOf_39 rfl 40 rfl ?_
      refine g_iconst C dX2_worseOf_40 1 ic_1 41 rfl ?_
      refine g_isub C dX2_worseOf_41 42 rfl ?_
      obtain ⟨v12, hv12, hR⟩ := opt_b hR
      refine g_callLR C (rn_V C (k_X2_sumOf l g h4 h5 F2 0 (x3 - 1) N_ v12 hv12) (cwV 2 C.1.2.2.2.2 (gdV wl_427 wl_424 wl_425 wl_426 wl_32) rfl rfl rfl hd_X2_sumOf ⟨Nat.le_of_ble_eq_true rfl, Nat.le_of_ble_eq_true rfl⟩) 4 rfl rfl [4, 5] rfl rfl rfl rfl (Nat.le_of_ble_eq_true rfl) ⟨Nat.zero_le _, Nat.zero_le _⟩ dX2_worseOf_42) 45 rfl ?_
      refine g_lmul C dX2_worseOf_45 46 rfl ?_
      refine g_lsub C dX2_worseOf_46 47 rfl ?_
      obtain ⟨h_47, hR⟩ := opt_n hR
      refine g_last (f := F) C 1 rfl h_47 dX2_worseOf_47 ([(h0, .inr (2, [.ref h1])), (h1, .inl (g.2.1 1, 5, .inr (.inl (vp_updL F (Int32.toNatClampNeg x3) ((v9 * v10) - (v11 * v12)))))), (h2, .inr (2, [.ref h3])), (h3, .inl (g.2.1 1, 5, .inr (.inl F1))), (h4, .inr (2, [.ref h5])), (h5, .inl (g.2.1 1, 5, .inr (.inl F2)))]) rfl 48 rfl ?_
      refine g_iinc C dX2_worseOf_48 rfl 1 ic_1 [_, _, _, _] (Nat.le_of_ble_eq_true rfl) rfl rfl 51 rfl ?_
      refine g_goto C dX2_worseOf_51 2 (by decide) ?_
      refine g_lv [some (.ref h0), some (.ref h2), some (.ref h4), some (.int (x3 + 1))] (lvLe.sm (lvLe.sm (lvLe.sm (lvLe.sm lvLe.nil)))) ?_
      exact ih _ _ rv_ hR hk
def f_X2_worseOf (F : Nat → Int64) (F1 : Nat → Int64) (F2 : Nat → Int64) (N_ : Nat) : Option ((Nat → Int64)) :=
  (f_X2_worseOf_L2 F1 F2 N_ N_ 0 F).bind fun v13 =>
  some v13.2
set_option maxRecDepth 100000 in
set_option maxHeartbeats 4000000 in
theorem k_X2_worseOf (l : Launch) (g : gE) (h0 : Nat) (h1 : Nat) (h2 : Nat) (h3 : Nat) (h4 : Nat) (h5 : Nat) (F : Nat → Int64) (F1 : Nat → Int64) (F2 : Nat → Int64) (N_ : Nat) (R_ : (Nat → Int64)) (hR : f_X2_worseOf F F1 F2 N_ = some R_) : FnV l g yX2_worseOf wA_X2_worseOf { frames := 2, cells := 0, slots := 0, locals := 40 } [.ref h0, .ref h2, .ref h4] ([(h0, .inr (2, [.ref h1])), (h1, .inl (g.2.1 1, 5, .inr (.inl F))), (h2, .inr (2, [.ref h3])), (h3, .inl (g.2.1 1, 5, .inr (.inl F1))), (h4, .inr (2, [.ref h5])), (h5, .inl (g.2.1 1, 5, .inr (.inl F2)))])  ([(h0, .inr (2, [.ref h1])), (h1, .inl (g.2.1 1, 5, .inr (.inl R_))), (h2, .inr (2, [.ref h3])), (h3, .inl (g.2.1 1, 5, .inr (.inl F1))), (h4, .inr (2, [.ref h5])), (h5, .inl (g.2.1 1, 5, .inr (.inl F2)))]) := by
  refine fEntry (As := [.ref h0, .ref h2, .ref h4]) (maxL := 4) (ret := none) (by decide) rfl [some (.ref h0), some (.ref h2), some (.ref h4), none] (Nat.le_of_ble_eq_true rfl) (lvInB.to (lvInB.sm (lvInB.sm (lvInB.sm (lvInB.nn lvInB.nil))))) ?_
  intro p e s m below meth c A C hr hlocks hname hA
  have C : Cx p s m _ c g A cX2_worseOf 4 wA_X2_worseOf RX2 := C
  rw [f_X2_worseOf] at hR
  refine g_iconst C dX2_worseOf_0 0 ic_0 1 rfl ?_
  refine g_istore_n C dX2_worseOf_1 [_, _, _, _] (Nat.le_of_ble_eq_true rfl) rfl rfl 2 rfl ?_
  refine g_lv [some (.ref h0), some (.ref h2), some (.ref h4), some (.int 0)] (lvLe.sm (lvLe.sm (lvLe.sm (lvLe.sm lvLe.nil)))) ?_
  obtain ⟨v13, hv13, hR⟩ := opt_b hR
  refine k_X2_worseOf_L2 l g C N_ F1 F2 N_ 0 F _ hv13 ?_
  obtain rfl := Option.some.inj hR
  exact g_vret C hr hlocks hA (by first | (dsimp only; done) | rfl) dX2_worseOf_54
