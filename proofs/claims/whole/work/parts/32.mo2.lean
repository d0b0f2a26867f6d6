theorem hd_X4_passes : yX4_passes.cls = RX4 ∧ yX4_passes.cls ≠ "java/lang/invoke/MethodHandle" ∧ yX4_passes.cls ≠ "java/lang/invoke/VarHandle" ∧ (parseMethodDescriptor yX4_passes.desc).map (fun d => d.parameters.length) = some 1 := by decide +kernel
def f_X4_passes_0_L2  (N_ : Nat) : Nat → Int32 → ((Nat → Nat → Int32) × (Nat → Nat → Int64)) → Option (Int32 × ((Nat → Nat → Int32) × (Nat → Nat → Int64)))
  | 0, _, _ => none
  | n_ + 1, x2, S =>
    if 5 ≤ x2 then
      some (x2, S)
    else
      if (S.1 0 9) = 0 then
        if (S.1 0 10) < 0 ∨ 120 ≤ (Int32.toNatClampNeg (S.1 0 10)) then none else
        if x2 < 0 ∨ 5 ≤ (Int32.toNatClampNeg x2) then none else
        f_X4_passes_0_L2 N_ n_ (x2 + 1) ((kS (kS S.1 0 (upd (S.1 0) 10 ((S.1 0 10) + 1))) 2 (upd (S.1 2) (Int32.toNatClampNeg x2) ((S.1 14) (Int32.toNatClampNeg (S.1 0 10))))), S.2)
      else
        if x2 < 0 ∨ 5 ≤ (Int32.toNatClampNeg x2) then none else
        if (S.1 0 10) < 0 ∨ 120 ≤ (Int32.toNatClampNeg (S.1 0 10)) then none else
        f_X4_passes_0_L2 N_ n_ (x2 + 1) ((kS (kS S.1 0 (upd (S.1 0) 10 ((S.1 0 10) + 1))) 14 (upd (S.1 14) (Int32.toNatClampNeg (S.1 0 10)) ((S.1 2) (Int32.toNatClampNeg x2)))), S.2)
set_option maxRecDepth 100000 in
set_option maxHeartbeats 4000000 in
theorem k_X4_passes_0_L2 (l : Launch) (g : gE) {p : Program} {e : Env} {s : State} {m : MethodId} {args : Array Value} {below : List Frame} {meth : Method} {c : Code} {Q : State → Prop} {A : Nat → Prop} {b : Nat → Nat}  (C : Cx p s m args c g A cX4_passes 3 wA_X4_passes RX4) (N_ : Nat)  : ∀ (n_ : Nat) (x2 : Int32) (S : (Nat → Nat → Int32) × (Nat → Nat → Int64)) (rv_ : Int32 × ((Nat → Nat → Int32) × (Nat → Nat → Int64))), f_X4_passes_0_L2 N_ n_ x2 S = some rv_ → (Gm p l e (headSpec wA_X4_passes ({ frames := 0, cells := 0, slots := 0, locals := 0 } : Room)).room s m args below meth c Q g A 3 0 0 (wM g b rv_.2) [some (.ref (b 0)), some (.ref (b 2)), some (.int rv_.1)] [] 58) → Gm p l e (headSpec wA_X4_passes ({ frames := 0, cells := 0, slots := 0, locals := 0 } : Room)).room s m args below meth c Q g A 3 0 0 (wM g b S) [some (.ref (b 0)), some (.ref (b 2)), some (.int x2)] [] 2 := by
  intro n_
  induction n_ with
  | zero =>
    intro x2 S rv_ hR
    simp [f_X4_passes_0_L2] at hR
  | succ n_ ih =>
    intro x2 S rv_ hR hk
    rw [f_X4_passes_0_L2] at hR
    refine g_iload_n C dX4_passes_2 rfl 3 rfl ?_
    refine g_aload_n C dX4_passes_3 rfl 4 rfl ?_
    refine g_alen C 2 0 rfl rfl 5 (show Int32.ofNat 5 = 5 by decide) dX4_passes_4 5 rfl ?_
    refine g_icmp_ge C dX4_passes_5 hR 58 8 (by decide) rfl (fun c_5 hR => ?_) (fun c_5 hR => ?_)
    · obtain rfl := Option.some.inj hR
      refine g_lv [some (.ref (b 0)), some (.ref (b 2)), some (.int x2)] (lvLe.sm (lvLe.sm (lvLe.sm lvLe.nil))) ?_
      exact hk
    · refine g_aload_n C dX4_passes_8 rfl 9 rfl ?_
      refine g_get (v := .int (S.1 0 9)) C (hiC hiA_4) 0 rfl rfl 23 (by decide) (List.mem_cons_of_mem _ wl_238) rfl rfl dX4_passes_9 12 rfl ?_
      refine g_if_eq C dX4_passes_12 hR 30 15 (by decide) rfl (fun c_12 hR => ?_) (fun c_12 hR => ?_)
      · refine g_aload_n C dX4_passes_30 rfl 31 rfl ?_
        refine g_iload_n C dX4_passes_31 rfl 32 rfl ?_
        refine g_aload_n C dX4_passes_32 rfl 33 rfl ?_
        refine g_get (v := .ref (b 14)) C (hiC hiA_4) 0 rfl rfl 21 (by decide) (List.mem_cons_of_mem _ wl_79) rfl rfl dX4_passes_33 36 rfl ?_
        refine g_aload_n C dX4_passes_36 rfl 37 rfl ?_
        refine g_get (v := .int (S.1 0 10)) C (hiC hiA_4) 0 rfl rfl 24 (by decide) (List.mem_cons_of_mem _ wl_237) rfl rfl dX4_passes_37 40 rfl ?_
        obtain ⟨h_40, hR⟩ := opt_n hR
        refine g_iald (f := (S.1 14)) C 14 rfl h_40 dX4_passes_40 41 rfl ?_
        obtain ⟨h_41, hR⟩ := opt_n hR
        refine g_iast (f := (S.1 2)) C 2 rfl h_41 dX4_passes_41 (wMr g b (S.1 0 0) (S.1 0 1) (S.1 0 2) (S.1 0 3) (S.1 0 4) (S.1 0 5) (S.1 0 6) (S.1 0 7) (S.1 0 8) (S.1 0 9) (S.1 0 10) (S.1 0 11) (S.1 0 12) (S.1 0 13) (S.1 0 14) (S.1 1) (upd (S.1 2) (Int32.toNatClampNeg x2) ((S.1 14) (Int32.toNatClampNeg (S.1 0 10)))) (S.1 3) (S.1 4) (S.1 5) (S.1 6) (S.1 7) (S.1 8) (S.1 9) (S.1 10) (S.1 11) (S.1 12) (S.1 13) (S.1 14) (S.1 15) (S.1 16) (S.2 0) (S.2 1) (S.2 2)) rfl 42 rfl ?_
        refine g_aload_n C dX4_passes_42 rfl 43 rfl ?_
        refine g_dup C dX4_passes_43 rfl 44 rfl ?_
        refine g_get (v := .int (S.1 0 10)) C (hiC hiA_4) 0 rfl rfl 24 (by decide) (List.mem_cons_of_mem _ wl_237) rfl rfl dX4_passes_44 47 rfl ?_
        refine g_iconst C dX4_passes_47 1 ic_1 48 rfl ?_
        refine g_iadd C dX4_passes_48 49 rfl ?_
        refine g_put C (hiC hiA_4) tyX4 tyX4_ok nmX4 0 rfl rfl 24 (by decide) (List.mem_cons_of_mem _ wl_237) rfl rfl rfl rfl (Nat.le_of_ble_eq_true rfl) dX4_passes_49 (wMr g b (S.1 0 0) (S.1 0 1) (S.1 0 2) (S.1 0 3) (S.1 0 4) (S.1 0 5) (S.1 0 6) (S.1 0 7) (S.1 0 8) (S.1 0 9) ((S.1 0 10) + 1) (S.1 0 11) (S.1 0 12) (S.1 0 13) (S.1 0 14) (S.1 1) (upd (S.1 2) (Int32.toNatClampNeg x2) ((S.1 14) (Int32.toNatClampNeg (S.1 0 10)))) (S.1 3) (S.1 4) (S.1 5) (S.1 6) (S.1 7) (S.1 8) (S.1 9) (S.1 10) (S.1 11) (S.1 12) (S.1 13) (S.1 14) (S.1 15) (S.1 16) (S.2 0) (S.2 1) (S.2 2)) rfl 52 rfl ?_
        refine g_iinc C dX4_passes_52 rfl 1 ic_1 [_, _, _] (Nat.le_of_ble_eq_true rfl) rfl rfl 55 rfl ?_
        refine g_goto C dX4_passes_55 2 (by decide) ?_
        refine g_lv [some (.ref (b 0)), some (.ref (b 2)), some (.int (x2 + 1))] (lvLe.sm (lvLe.sm (lvLe.sm lvLe.nil))) ?_
        exact ih _ _ rv_ hR hk
      · refine g_aload_n C dX4_passes_15 rfl 16 rfl ?_
        refine g_get (v := .ref (b 14)) C (hiC hiA_4) 0 rfl rfl 21 (by decide) (List.mem_cons_of_mem _ wl_79) rfl rfl dX4_passes_16 19 rfl ?_
        refine g_aload_n C dX4_passes_19 rfl 20 rfl ?_
        refine g_get (v := .int (S.1 0 10)) C (hiC hiA_4) 0 rfl rfl 24 (by decide) (List.mem_cons_of_mem _ wl_237) rfl rfl dX4_passes_20 23 rfl ?_
        refine g_aload_n C dX4_passes_23 rfl 24 rfl ?_
        refine g_iload_n C dX4_passes_24 rfl 25 rfl ?_
        obtain ⟨h_25, hR⟩ := opt_n hR
        refine g_iald (f := (S.1 2)) C 2 rfl h_25 dX4_passes_25 26 rfl ?_
        obtain ⟨h_26, hR⟩ := opt_n hR
        refine g_iast (f := (S.1 14)) C 14 rfl h_26 dX4_passes_26 (wMr g b (S.1 0 0) (S.1 0 1) (S.1 0 2) (S.1 0 3) (S.1 0 4) (S.1 0 5) (S.1 0 6) (S.1 0 7) (S.1 0 8) (S.1 0 9) (S.1 0 10) (S.1 0 11) (S.1 0 12) (S.1 0 13) (S.1 0 14) (S.1 1) (S.1 2) (S.1 3) (S.1 4) (S.1 5) (S.1 6) (S.1 7) (S.1 8) (S.1 9) (S.1 10) (S.1 11) (S.1 12) (S.1 13) (upd (S.1 14) (Int32.toNatClampNeg (S.1 0 10)) ((S.1 2) (Int32.toNatClampNeg x2))) (S.1 15) (S.1 16) (S.2 0) (S.2 1) (S.2 2)) rfl 27 rfl ?_
        refine g_goto C dX4_passes_27 42 (by decide) ?_
        refine g_aload_n C dX4_passes_42 rfl 43 rfl ?_
        refine g_dup C dX4_passes_43 rfl 44 rfl ?_
        refine g_get (v := .int (S.1 0 10)) C (hiC hiA_4) 0 rfl rfl 24 (by decide) (List.mem_cons_of_mem _ wl_237) rfl rfl dX4_passes_44 47 rfl ?_
        refine g_iconst C dX4_passes_47 1 ic_1 48 rfl ?_
        refine g_iadd C dX4_passes_48 49 rfl ?_
        refine g_put C (hiC hiA_4) tyX4 tyX4_ok nmX4 0 rfl rfl 24 (by decide) (List.mem_cons_of_mem _ wl_237) rfl rfl rfl rfl (Nat.le_of_ble_eq_true rfl) dX4_passes_49 (wMr g b (S.1 0 0) (S.1 0 1) (S.1 0 2) (S.1 0 3) (S.1 0 4) (S.1 0 5) (S.1 0 6) (S.1 0 7) (S.1 0 8) (S.1 0 9) ((S.1 0 10) + 1) (S.1 0 11) (S.1 0 12) (S.1 0 13) (S.1 0 14) (S.1 1) (S.1 2) (S.1 3) (S.1 4) (S.1 5) (S.1 6) (S.1 7) (S.1 8) (S.1 9) (S.1 10) (S.1 11) (S.1 12) (S.1 13) (upd (S.1 14) (Int32.toNatClampNeg (S.1 0 10)) ((S.1 2) (Int32.toNatClampNeg x2))) (S.1 15) (S.1 16) (S.2 0) (S.2 1) (S.2 2)) rfl 52 rfl ?_
        refine g_iinc C dX4_passes_52 rfl 1 ic_1 [_, _, _] (Nat.le_of_ble_eq_true rfl) rfl rfl 55 rfl ?_
        refine g_goto C dX4_passes_55 2 (by decide) ?_
        refine g_lv [some (.ref (b 0)), some (.ref (b 2)), some (.int (x2 + 1))] (lvLe.sm (lvLe.sm (lvLe.sm lvLe.nil))) ?_
        exact ih _ _ rv_ hR hk
def f_X4_passes_0 (S : (Nat → Nat → Int32) × (Nat → Nat → Int64)) (N_ : Nat) : Option (((Nat → Nat → Int32) × (Nat → Nat → Int64))) :=
  (f_X4_passes_0_L2 N_ N_ 0 S).bind fun v1 =>
  some v1.2
set_option maxRecDepth 100000 in
set_option maxHeartbeats 4000000 in
theorem k_X4_passes_0 (l : Launch) (g : gE) (b : Nat → Nat) (S : (Nat → Nat → Int32) × (Nat → Nat → Int64)) (N_ : Nat) (R_ : ((Nat → Nat → Int32) × (Nat → Nat → Int64))) (hR : f_X4_passes_0 S N_ = some R_) : FnV l g yX4_passes wA_X4_passes { frames := 0, cells := 0, slots := 0, locals := 0 } [.ref (b 0), .ref (b 2)] (wM g b S)  (wM g b R_) := by
  refine fEntry (As := [.ref (b 0), .ref (b 2)]) (maxL := 3) (ret := none) (by decide) rfl [some (.ref (b 0)), some (.ref (b 2)), none] (Nat.le_of_ble_eq_true rfl) (lvInB.to (lvInB.sm (lvInB.sm (lvInB.nn lvInB.nil)))) ?_
  intro p e s m below meth c A C hr hlocks hname hA
  have C : Cx p s m _ c g A cX4_passes 3 wA_X4_passes RX4 := C
  rw [f_X4_passes_0] at hR
  refine g_iconst C dX4_passes_0 0 ic_0 1 rfl ?_
  refine g_istore_n C dX4_passes_1 [_, _, _] (Nat.le_of_ble_eq_true rfl) rfl rfl 2 rfl ?_
  refine g_lv [some (.ref (b 0)), some (.ref (b 2)), some (.int 0)] (lvLe.sm (lvLe.sm (lvLe.sm lvLe.nil))) ?_
  obtain ⟨v1, hv1, hR⟩ := opt_b hR
  refine k_X4_passes_0_L2 l g C N_  N_ 0 S _ hv1 ?_
  obtain rfl := Option.some.inj hR
  exact g_vret C hr hlocks hA (by first | (dsimp only; done) | rfl) dX4_passes_58
def f_X4_passes_1_L2  (N_ : Nat) : Nat → Int32 → ((Nat → Nat → Int32) × (Nat → Nat → Int64)) → Option (Int32 × ((Nat → Nat → Int32) × (Nat → Nat → Int64)))
  | 0, _, _ => none
  | n_ + 1, x2, S =>
    if 5 ≤ x2 then
      some (x2, S)
    else
      if (S.1 0 9) = 0 then
        if (S.1 0 10) < 0 ∨ 120 ≤ (Int32.toNatClampNeg (S.1 0 10)) then none else
        if x2 < 0 ∨ 5 ≤ (Int32.toNatClampNeg x2) then none else
        f_X4_passes_1_L2 N_ n_ (x2 + 1) ((kS (kS S.1 0 (upd (S.1 0) 10 ((S.1 0 10) + 1))) 3 (upd (S.1 3) (Int32.toNatClampNeg x2) ((S.1 14) (Int32.toNatClampNeg (S.1 0 10))))), S.2)
      else
        if x2 < 0 ∨ 5 ≤ (Int32.toNatClampNeg x2) then none else
        if (S.1 0 10) < 0 ∨ 120 ≤ (Int32.toNatClampNeg (S.1 0 10)) then none else
        f_X4_passes_1_L2 N_ n_ (x2 + 1) ((kS (kS S.1 0 (upd (S.1 0) 10 ((S.1 0 10) + 1))) 14 (upd (S.1 14) (Int32.toNatClampNeg (S.1 0 10)) ((S.1 3) (Int32.toNatClampNeg x2)))), S.2)
set_option maxRecDepth 100000 in
set_option maxHeartbeats 4000000 in
theorem k_X4_passes_1_L2 (l : Launch) (g : gE) {p : Program} {e : Env} {s : State} {m : MethodId} {args : Array Value} {below : List Frame} {meth : Method} {c : Code} {Q : State → Prop} {A : Nat → Prop} {b : Nat → Nat}  (C : Cx p s m args c g A cX4_passes 3 wA_X4_passes RX4) (N_ : Nat)  : ∀ (n_ : Nat) (x2 : Int32) (S : (Nat → Nat → Int32) × (Nat → Nat → Int64)) (rv_ : Int32 × ((Nat → Nat → Int32) × (Nat → Nat → Int64))), f_X4_passes_1_L2 N_ n_ x2 S = some rv_ → (Gm p l e (headSpec wA_X4_passes ({ frames := 0, cells := 0, slots := 0, locals := 0 } : Room)).room s m args below meth c Q g A 3 0 0 (wM g b rv_.2) [some (.ref (b 0)), some (.ref (b 3)), some (.int rv_.1)] [] 58) → Gm p l e (headSpec wA_X4_passes ({ frames := 0, cells := 0, slots := 0, locals := 0 } : Room)).room s m args below meth c Q g A 3 0 0 (wM g b S) [some (.ref (b 0)), some (.ref (b 3)), some (.int x2)] [] 2 := by
  intro n_
  induction n_ with
  | zero =>
    intro x2 S rv_ hR
    simp [f_X4_passes_1_L2] at hR
  | succ n_ ih =>
    intro x2 S rv_ hR hk
    rw [f_X4_passes_1_L2] at hR
    refine g_iload_n C dX4_passes_2 rfl 3 rfl ?_
    refine g_aload_n C dX4_passes_3 rfl 4 rfl ?_
    refine g_alen C 3 0 rfl rfl 5 (show Int32.ofNat 5 = 5 by decide) dX4_passes_4 5 rfl ?_
    refine g_icmp_ge C dX4_passes_5 hR 58 8 (by decide) rfl (fun c_5 hR => ?_) (fun c_5 hR => ?_)
    · obtain rfl := Option.some.inj hR
      refine g_lv [some (.ref (b 0)), some (.ref (b 3)), some (.int x2)] (lvLe.sm (lvLe.sm (lvLe.sm lvLe.nil))) ?_
      exact hk
    · refine g_aload_n C dX4_passes_8 rfl 9 rfl ?_
      refine g_get (v := .int (S.1 0 9)) C (hiC hiA_4) 0 rfl rfl 23 (by decide) (List.mem_cons_of_mem _ wl_238) rfl rfl dX4_passes_9 12 rfl ?_
      refine g_if_eq C dX4_passes_12 hR 30 15 (by decide) rfl (fun c_12 hR => ?_) (fun c_12 hR => ?_)
      · refine g_aload_n C dX4_passes_30 rfl 31 rfl ?_
        refine g_iload_n C dX4_passes_31 rfl 32 rfl ?_
        refine g_aload_n C dX4_passes_32 rfl 33 rfl ?_
        refine g_get (v := .ref (b 14)) C (hiC hiA_4) 0 rfl rfl 21 (by decide) (List.mem_cons_of_mem _ wl_79) rfl rfl dX4_passes_33 36 rfl ?_
        refine g_aload_n C dX4_passes_36 rfl 37 rfl ?_
        refine g_get (v := .int (S.1 0 10)) C (hiC hiA_4) 0 rfl rfl 24 (by decide) (List.mem_cons_of_mem _ wl_237) rfl rfl dX4_passes_37 40 rfl ?_
        obtain ⟨h_40, hR⟩ := opt_n hR
        refine g_iald (f := (S.1 14)) C 14 rfl h_40 dX4_passes_40 41 rfl ?_
        obtain ⟨h_41, hR⟩ := opt_n hR
        refine g_iast (f := (S.1 3)) C 3 rfl h_41 dX4_passes_41 (wMr g b (S.1 0 0) (S.1 0 1) (S.1 0 2) (S.1 0 3) (S.1 0 4) (S.1 0 5) (S.1 0 6) (S.1 0 7) (S.1 0 8) (S.1 0 9) (S.1 0 10) (S.1 0 11) (S.1 0 12) (S.1 0 13) (S.1 0 14) (S.1 1) (S.1 2) (upd (S.1 3) (Int32.toNatClampNeg x2) ((S.1 14) (Int32.toNatClampNeg (S.1 0 10)))) (S.1 4) (S.1 5) (S.1 6) (S.1 7) (S.1 8) (S.1 9) (S.1 10) (S.1 11) (S.1 12) (S.1 13) (S.1 14) (S.1 15) (S.1 16) (S.2 0) (S.2 1) (S.2 2)) rfl 42 rfl ?_
        refine g_aload_n C dX4_passes_42 rfl 43 rfl ?_
        refine g_dup C dX4_passes_43 rfl 44 rfl ?_
        refine g_get (v := .int (S.1 0 10)) C (hiC hiA_4) 0 rfl rfl 24 (by decide) (List.mem_cons_of_mem _ wl_237) rfl rfl dX4_passes_44 47 rfl ?_
        refine g_iconst C dX4_passes_47 1 ic_1 48 rfl ?_
        refine g_iadd C dX4_passes_48 49 rfl ?_
        refine g_put C (hiC hiA_4) tyX4 tyX4_ok nmX4 0 rfl rfl 24 (by decide) (List.mem_cons_of_mem _ wl_237) rfl rfl rfl rfl (Nat.le_of_ble_eq_true rfl) dX4_passes_49 (wMr g b (S.1 0 0) (S.1 0 1) (S.1 0 2) (S.1 0 3) (S.1 0 4) (S.1 0 5) (S.1 0 6) (S.1 0 7) (S.1 0 8) (S.1 0 9) ((S.1 0 10) + 1) (S.1 0 11) (S.1 0 12) (S.1 0 13) (S.1 0 14) (S.1 1) (S.1 2) (upd (S.1 3) (Int32.toNatClampNeg x2) ((S.1 14) (Int32.toNatClampNeg (S.1 0 10)))) (S.1 4) (S.1 5) (S.1 6) (S.1 7) (S.1 8) (S.1 9) (S.1 10) (S.1 11) (S.1 12) (S.1 13) (S.1 14) (S.1 15) (S.1 16) (S.2 0) (S.2 1) (S.2 2)) rfl 52 rfl ?_
        refine g_iinc C dX4_passes_52 rfl 1 ic_1 [_, _, _] (Nat.le_of_ble_eq_true rfl) rfl rfl 55 rfl ?_
        refine g_goto C dX4_passes_55 2 (by decide) ?_
        refine g_lv [some (.ref (b 0)), some (.ref (b 3)), some (.int (x2 + 1))] (lvLe.sm (lvLe.sm (lvLe.sm lvLe.nil))) ?_
        exact ih _ _ rv_ hR hk
      · refine g_aload_n C dX4_passes_15 rfl 16 rfl ?_
        refine g_get (v := .ref (b 14)) C (hiC hiA_4) 0 rfl rfl 21 (by decide) (List.mem_cons_of_mem _ wl_79) rfl rfl dX4_passes_16 19 rfl ?_
        refine g_aload_n C dX4_passes_19 rfl 20 rfl ?_
        refine g_get (v := .int (S.1 0 10)) C (hiC hiA_4) 0 rfl rfl 24 (by decide) (List.mem_cons_of_mem _ wl_237) rfl rfl dX4_passes_20 23 rfl ?_
        refine g_aload_n C dX4_passes_23 rfl 24 rfl ?_
        refine g_iload_n C dX4_passes_24 rfl 25 rfl ?_
        obtain ⟨h_25, hR⟩ := opt_n hR
        refine g_iald (f := (S.1 3)) C 3 rfl h_25 dX4_passes_25 26 rfl ?_
        obtain ⟨h_26, hR⟩ := opt_n hR
        refine g_iast (f := (S.1 14)) C 14 rfl h_26 dX4_passes_26 (wMr g b (S.1 0 0) (S.1 0 1) (S.1 0 2) (S.1 0 3) (S.1 0 4) (S.1 0 5) (S.1 0 6) (S.1 0 7) (S.1 0 8) (S.1 0 9) (S.1 0 10) (S.1 0 11) (S.1 0 12) (S.1 0 13) (S.1 0 14) (S.1 1) (S.1 2) (S.1 3) (S.1 4) (S.1 5) (S.1 6) (S.1 7) (S.1 8) (S.1 9) (S.1 10) (S.1 11) (S.1 12) (S.1 13) (upd (S.1 14) (Int32.toNatClampNeg (S.1 0 10)) ((S.1 3) (Int32.toNatClampNeg x2))) (S.1 15) (S.1 16) (S.2 0) (S.2 1) (S.2 2)) rfl 27 rfl ?_
        refine g_goto C dX4_passes_27 42 (by decide) ?_
        refine g_aload_n C dX4_passes_42 rfl 43 rfl ?_
        refine g_dup C dX4_passes_43 rfl 44 rfl ?_
        refine g_get (v := .int (S.1 0 10)) C (hiC hiA_4) 0 rfl rfl 24 (by decide) (List.mem_cons_of_mem _ wl_237) rfl rfl dX4_passes_44 47 rfl ?_
        refine g_iconst C dX4_passes_47 1 ic_1 48 rfl ?_
        refine g_iadd C dX4_passes_48 49 rfl ?_
        refine g_put C (hiC hiA_4) tyX4 tyX4_ok nmX4 0 rfl rfl 24 (by decide) (List.mem_cons_of_mem _ wl_237) rfl rfl rfl rfl (Nat.le_of_ble_eq_true rfl) dX4_passes_49 (wMr g b (S.1 0 0) (S.1 0 1) (S.1 0 2) (S.1 0 3) (S.1 0 4) (S.1 0 5) (S.1 0 6) (S.1 0 7) (S.1 0 8) (S.1 0 9) ((S.1 0 10) + 1) (S.1 0 11) (S.1 0 12) (S.1 0 13) (S.1 0 14) (S.1 1) (S.1 2) (S.1 3) (S.1 4) (S.1 5) (S.1 6) (S.1 7) (S.1 8) (S.1 9) (S.1 10) (S.1 11) (S.1 12) (S.1 13) (upd (S.1 14) (Int32.toNatClampNeg (S.1 0 10)) ((S.1 3) (Int32.toNatClampNeg x2))) (S.1 15) (S.1 16) (S.2 0) (S.2 1) (S.2 2)) rfl 52 rfl ?_
        refine g_iinc C dX4_passes_52 rfl 1 ic_1 [_, _, _] (Nat.le_of_ble_eq_true rfl) rfl rfl 55 rfl ?_
        refine g_goto C dX4_passes_55 2 (by decide) ?_
        refine g_lv [some (.ref (b 0)), some (.ref (b 3)), some (.int (x2 + 1))] (lvLe.sm (lvLe.sm (lvLe.sm lvLe.nil))) ?_
        exact ih _ _ rv_ hR hk
def f_X4_passes_1 (S : (Nat → Nat → Int32) × (Nat → Nat → Int64)) (N_ : Nat) : Option (((Nat → Nat → Int32) × (Nat → Nat → Int64))) :=
  (f_X4_passes_1_L2 N_ N_ 0 S).bind fun v1 =>
  some v1.2
set_option maxRecDepth 100000 in
set_option maxHeartbeats 4000000 in
theorem k_X4_passes_1 (l : Launch) (g : gE) (b : Nat → Nat) (S : (Nat → Nat → Int32) × (Nat → Nat → Int64)) (N_ : Nat) (R_ : ((Nat → Nat → Int32) × (Nat → Nat → Int64))) (hR : f_X4_passes_1 S N_ = some R_) : FnV l g yX4_passes wA_X4_passes { frames := 0, cells := 0, slots := 0, locals := 0 } [.ref (b 0), .ref (b 3)] (wM g b S)  (wM g b R_) := by
  refine fEntry (As := [.ref (b 0), .ref (b 3)]) (maxL := 3) (ret := none) (by decide) rfl [some (.ref (b 0)), some (.ref (b 3)), none] (Nat.le_of_ble_eq_true rfl) (lvInB.to (lvInB.sm (lvInB.sm (lvInB.nn lvInB.nil)))) ?_
  intro p e s m below meth c A C hr hlocks hname hA
  have C : Cx p s m _ c g A cX4_passes 3 wA_X4_passes RX4 := C
  rw [f_X4_passes_1] at hR
  refine g_iconst C dX4_passes_0 0 ic_0 1 rfl ?_
  refine g_istore_n C dX4_passes_1 [_, _, _] (Nat.le_of_ble_eq_true rfl) rfl rfl 2 rfl ?_
  refine g_lv [some (.ref (b 0)), some (.ref (b 3)), some (.int 0)] (lvLe.sm (lvLe.sm (lvLe.sm lvLe.nil))) ?_
  obtain ⟨v1, hv1, hR⟩ := opt_b hR
  refine k_X4_passes_1_L2 l g C N_  N_ 0 S _ hv1 ?_
  obtain rfl := Option.some.inj hR
  exact g_vret C hr hlocks hA (by first | (dsimp only; done) | rfl) dX4_passes_58
def f_X4_passes_2_L2  (N_ : Nat) : Nat → Int32 → ((Nat → Nat → Int32) × (Nat → Nat → Int64)) → Option (Int32 × ((Nat → Nat → Int32) × (Nat → Nat → Int64)))
  | 0, _, _ => none
  | n_ + 1, x2, S =>
    if 5 ≤ x2 then
      some (x2, S)
    else
      if (S.1 0 9) = 0 then
        if (S.1 0 10) < 0 ∨ 120 ≤ (Int32.toNatClampNeg (S.1 0 10)) then none else
        if x2 < 0 ∨ 5 ≤ (Int32.toNatClampNeg x2) then none else
        f_X4_passes_2_L2 N_ n_ (x2 + 1) ((kS (kS S.1 0 (upd (S.1 0) 10 ((S.1 0 10) + 1))) 4 (upd (S.1 4) (Int32.toNatClampNeg x2) ((S.1 14) (Int32.toNatClampNeg (S.1 0 10))))), S.2)
      else
        if x2 < 0 ∨ 5 ≤ (Int32.toNatClampNeg x2) then none else
        if (S.1 0 10) < 0 ∨ 120 ≤ (Int32.toNatClampNeg (S.1 0 10)) then none else
        f_X4_passes_2_L2 N_ n_ (x2 + 1) ((kS (kS S.1 0 (upd (S.1 0) 10 ((S.1 0 10) + 1))) 14 (upd (S.1 14) (Int32.toNatClampNeg (S.1 0 10)) ((S.1 4) (Int32.toNatClampNeg x2)))), S.2)
set_option maxRecDepth 100000 in
set_option maxHeartbeats 4000000 in
theorem k_X4_passes_2_L2 (l : Launch) (g : gE) {p : Program} {e : Env} {s : State} {m : MethodId} {args : Array Value} {below : List Frame} {meth : Method} {c : Code} {Q : State → Prop} {A : Nat → Prop} {b : Nat → Nat}  (C : Cx p s m args c g A cX4_passes 3 wA_X4_passes RX4) (N_ : Nat)  : ∀ (n_ : Nat) (x2 : Int32) (S : (Nat → Nat → Int32) × (Nat → Nat → Int64)) (rv_ : Int32 × ((Nat → Nat → Int32) × (Nat → Nat → Int64))), f_X4_passes_2_L2 N_ n_ x2 S = some rv_ → (Gm p l e (headSpec wA_X4_passes ({ frames := 0, cells := 0, slots := 0, locals := 0 } : Room)).room s m args below meth c Q g A 3 0 0 (wM g b rv_.2) [some (.ref (b 0)), some (.ref (b 4)), some (.int rv_.1)] [] 58) → Gm p l e (headSpec wA_X4_passes ({ frames := 0, cells := 0, slots := 0, locals := 0 } : Room)).room s m args below meth c Q g A 3 0 0 (wM g b S) [some (.ref (b 0)), some (.ref (b 4)), some (.int x2)] [] 2 := by
  intro n_
  induction n_ with
  | zero =>
    intro x2 S rv_ hR
    simp [f_X4_passes_2_L2] at hR
  | succ n_ ih =>
    intro x2 S rv_ hR hk
    rw [f_X4_passes_2_L2] at hR
    refine g_iload_n C dX4_passes_2 rfl 3 rfl ?_
    refine g_aload_n C dX4_passes_3 rfl 4 rfl ?_
    refine g_alen C 4 0 rfl rfl 5 (show Int32.ofNat 5 = 5 by decide) dX4_passes_4 5 rfl ?_
    refine g_icmp_ge C dX4_passes_5 hR 58 8 (by decide) rfl (fun c_5 hR => ?_) (fun c_5 hR => ?_)
    · obtain rfl := Option.some.inj hR
      refine g_lv [some (.ref (b 0)), some (.ref (b 4)), some (.int x2)] (lvLe.sm (lvLe.sm (lvLe.sm lvLe.nil))) ?_
      exact hk
    · refine g_aload_n C dX4_passes_8 rfl 9 rfl ?_
      refine g_get (v := .int (S.1 0 9)) C (hiC hiA_4) 0 rfl rfl 23 (by decide) (List.mem_cons_of_mem _ wl_238) rfl rfl dX4_passes_9 12 rfl ?_
      refine g_if_eq C dX4_passes_12 hR 30 15 (by decide) rfl (fun c_12 hR => ?_) (fun c_12 hR => ?_)
      · refine g_aload_n C dX4_passes_30 rfl 31 rfl ?_
        refine g_iload_n C dX4_passes_31 rfl 32 rfl ?_
        refine g_aload_n C dX4_passes_32 rfl 33 rfl ?_
        refine g_get (v := .ref (b 14)) C (hiC hiA_4) 0 rfl rfl 21 (by decide) (List.mem_cons_of_mem _ wl_79) rfl rfl dX4_passes_33 36 rfl ?_
        refine g_aload_n C dX4_passes_36 rfl 37 rfl ?_
        refine g_get (v := .int (S.1 0 10)) C (hiC hiA_4) 0 rfl rfl 24 (by decide) (List.mem_cons_of_mem _ wl_237) rfl rfl dX4_passes_37 40 rfl ?_
        obtain ⟨h_40, hR⟩ := opt_n hR
        refine g_iald (f := (S.1 14)) C 14 rfl h_40 dX4_passes_40 41 rfl ?_
        obtain ⟨h_41, hR⟩ := opt_n hR
        refine g_iast (f := (S.1 4)) C 4 rfl h_41 dX4_passes_41 (wMr g b (S.1 0 0) (S.1 0 1) (S.1 0 2) (S.1 0 3) (S.1 0 4) (S.1 0 5) (S.1 0 6) (S.1 0 7) (S.1 0 8) (S.1 0 9) (S.1 0 10) (S.1 0 11) (S.1 0 12) (S.1 0 13) (S.1 0 14) (S.1 1) (S.1 2) (S.1 3) (upd (S.1 4) (Int32.toNatClampNeg x2) ((S.1 14) (Int32.toNatClampNeg (S.1 0 10)))) (S.1 5) (S.1 6) (S.1 7) (S.1 8) (S.1 9) (S.1 10) (S.1 11) (S.1 12) (S.1 13) (S.1 14) (S.1 15) (S.1 16) (S.2 0) (S.2 1) (S.2 2)) rfl 42 rfl ?_
        refine g_aload_n C dX4_passes_42 rfl 43 rfl ?_
        refine g_dup C dX4_passes_43 rfl 44 rfl ?_
        refine g_get (v := .int (S.1 0 10)) C (hiC hiA_4) 0 rfl rfl 24 (by decide) (List.mem_cons_of_mem _ wl_237) rfl rfl dX4_passes_44 47 rfl ?_
        refine g_iconst C dX4_passes_47 1 ic_1 48 rfl ?_
        refine g_iadd C dX4_passes_48 49 rfl ?_
        refine g_put C (hiC hiA_4) tyX4 tyX4_ok nmX4 0 rfl rfl 24 (by decide) (List.mem_cons_of_mem _ wl_237) rfl rfl rfl rfl (Nat.le_of_ble_eq_true rfl) dX4_passes_49 (wMr g b (S.1 0 0) (S.1 0 1) (S.1 0 2) (S.1 0 3) (S.1 0 4) (S.1 0 5) (S.1 0 6) (S.1 0 7) (S.1 0 8) (S.1 0 9) ((S.1 0 10) + 1) (S.1 0 11) (S.1 0 12) (S.1 0 13) (S.1 0 14) (S.1 1) (S.1 2) (S.1 3) (upd (S.1 4) (Int32.toNatClampNeg x2) ((S.1 14) (Int32.toNatClampNeg (S.1 0 10)))) (S.1 5) (S.1 6) (S.1 7) (S.1 8) (S.1 9) (S.1 10) (S.1 11) (S.1 12) (S.1 13) (S.1 14) (S.1 15) (S.1 16) (S.2 0) (S.2 1) (S.2 2)) rfl 52 rfl ?_
        refine g_iinc C dX4_passes_52 rfl 1 ic_1 [_, _, _] (Nat.le_of_ble_eq_true rfl) rfl rfl 55 rfl ?_
        refine g_goto C dX4_passes_55 2 (by decide) ?_
        refine g_lv [some (.ref (b 0)), some (.ref (b 4)), some (.int (x2 + 1))] (lvLe.sm (lvLe.sm (lvLe.sm lvLe.nil))) ?_
        exact ih _ _ rv_ hR hk
      · refine g_aload_n C dX4_passes_15 rfl 16 rfl ?_
        refine g_get (v := .ref (b 14)) C (hiC hiA_4) 0 rfl rfl 21 (by decide) (List.mem_cons_of_mem _ wl_79) rfl rfl dX4_passes_16 19 rfl ?_
        refine g_aload_n C dX4_passes_19 rfl 20 rfl ?_
        refine g_get (v := .int (S.1 0 10)) C (hiC hiA_4) 0 rfl rfl 24 (by decide) (List.mem_cons_of_mem _ wl_237) rfl rfl dX4_passes_20 23 rfl ?_
        refine g_aload_n C dX4_passes_23 rfl 24 rfl ?_
        refine g_iload_n C dX4_passes_24 rfl 25 rfl ?_
        obtain ⟨h_25, hR⟩ := opt_n hR
        refine g_iald (f := (S.1 4)) C 4 rfl h_25 dX4_passes_25 26 rfl ?_
        obtain ⟨h_26, hR⟩ := opt_n hR
        refine g_iast (f := (S.1 14)) C 14 rfl h_26 dX4_passes_26 (wMr g b (S.1 0 0) (S.1 0 1) (S.1 0 2) (S.1 0 3) (S.1 0 4) (S.1 0 5) (S.1 0 6) (S.1 0 7) (S.1 0 8) (S.1 0 9) (S.1 0 10) (S.1 0 11) (S.1 0 12) (S.1 0 13) (S.1 0 14) (S.1 1) (S.1 2) (S.1 3) (S.1 4) (S.1 5) (S.1 6) (S.1 7) (S.1 8) (S.1 9) (S.1 10) (S.1 11) (S.1 12) (S.1 13) (upd (S.1 14) (Int32.toNatClampNeg (S.1 0 10)) ((S.1 4) (Int32.toNatClampNeg x2))) (S.1 15) (S.1 16) (S.2 0) (S.2 1) (S.2 2)) rfl 27 rfl ?_
        refine g_goto C dX4_passes_27 42 (by decide) ?_
        refine g_aload_n C dX4_passes_42 rfl 43 rfl ?_
        refine g_dup C dX4_passes_43 rfl 44 rfl ?_
        refine g_get (v := .int (S.1 0 10)) C (hiC hiA_4) 0 rfl rfl 24 (by decide) (List.mem_cons_of_mem _ wl_237) rfl rfl dX4_passes_44 47 rfl ?_
        refine g_iconst C dX4_passes_47 1 ic_1 48 rfl ?_
        refine g_iadd C dX4_passes_48 49 rfl ?_
        refine g_put C (hiC hiA_4) tyX4 tyX4_ok nmX4 0 rfl rfl 24 (by decide) (List.mem_cons_of_mem _ wl_237) rfl rfl rfl rfl (Nat.le_of_ble_eq_true rfl) dX4_passes_49 (wMr g b (S.1 0 0) (S.1 0 1) (S.1 0 2) (S.1 0 3) (S.1 0 4) (S.1 0 5) (S.1 0 6) (S.1 0 7) (S.1 0 8) (S.1 0 9) ((S.1 0 10) + 1) (S.1 0 11) (S.1 0 12) (S.1 0 13) (S.1 0 14) (S.1 1) (S.1 2) (S.1 3) (S.1 4) (S.1 5) (S.1 6) (S.1 7) (S.1 8) (S.1 9) (S.1 10) (S.1 11) (S.1 12) (S.1 13) (upd (S.1 14) (Int32.toNatClampNeg (S.1 0 10)) ((S.1 4) (Int32.toNatClampNeg x2))) (S.1 15) (S.1 16) (S.2 0) (S.2 1) (S.2 2)) rfl 52 rfl ?_
        refine g_iinc C dX4_passes_52 rfl 1 ic_1 [_, _, _] (Nat.le_of_ble_eq_true rfl) rfl rfl 55 rfl ?_
        refine g_goto C dX4_passes_55 2 (by decide) ?_
        refine g_lv [some (.ref (b 0)), some (.ref (b 4)), some (.int (x2 + 1))] (lvLe.sm (lvLe.sm (lvLe.sm lvLe.nil))) ?_
        exact ih _ _ rv_ hR hk
def f_X4_passes_2 (S : (Nat → Nat → Int32) × (Nat → Nat → Int64)) (N_ : Nat) : Option (((Nat → Nat → Int32) × (Nat → Nat → Int64))) :=
  (f_X4_passes_2_L2 N_ N_ 0 S).bind fun v1 =>
  some v1.2
set_option maxRecDepth 100000 in
set_option maxHeartbeats 4000000 in
theorem k_X4_passes_2 (l : Launch) (g : gE) (b : Nat → Nat) (S : (Nat → Nat → Int32) × (Nat → Nat → Int64)) (N_ : Nat) (R_ : ((Nat → Nat → Int32) × (Nat → Nat → Int64))) (hR : f_X4_passes_2 S N_ = some R_) : FnV l g yX4_passes wA_X4_passes { frames := 0, cells := 0, slots := 0, locals := 0 } [.ref (b 0), .ref (b 4)] (wM g b S)  (wM g b R_) := by
  refine fEntry (As := [.ref (b 0), .ref (b 4)]) (maxL := 3) (ret := none) (by decide) rfl [some (.ref (b 0)), some (.ref (b 4)), none] (Nat.le_of_ble_eq_true rfl) (lvInB.to (lvInB.sm (lvInB.sm (lvInB.nn lvInB.nil)))) ?_
  intro p e s m below meth c A C hr hlocks hname hA
  have C : Cx p s m _ c g A cX4_passes 3 wA_X4_passes RX4 := C
  rw [f_X4_passes_2] at hR
  refine g_iconst C dX4_passes_0 0 ic_0 1 rfl ?_
  refine g_istore_n C dX4_passes_1 [_, _, _] (Nat.le_of_ble_eq_true rfl) rfl rfl 2 rfl ?_
  refine g_lv [some (.ref (b 0)), some (.ref (b 4)), some (.int 0)] (lvLe.sm (lvLe.sm (lvLe.sm lvLe.nil))) ?_
  obtain ⟨v1, hv1, hR⟩ := opt_b hR
  refine k_X4_passes_2_L2 l g C N_  N_ 0 S _ hv1 ?_
  obtain rfl := Option.some.inj hR
  exact g_vret C hr hlocks hA (by first | (dsimp only; done) | rfl) dX4_passes_58
def f_X4_passes_3_L2  (N_ : Nat) : Nat → Int32 → ((Nat → Nat → Int32) × (Nat → Nat → Int64)) → Option (Int32 × ((Nat → Nat → Int32) × (Nat → Nat → Int64)))
  | 0, _, _ => none
  | n_ + 1, x2, S =>
    if 5 ≤ x2 then
      some (x2, S)
    else
      if (S.1 0 9) = 0 then
        if (S.1 0 10) < 0 ∨ 120 ≤ (Int32.toNatClampNeg (S.1 0 10)) then none else
        if x2 < 0 ∨ 5 ≤ (Int32.toNatClampNeg x2) then none else
        f_X4_passes_3_L2 N_ n_ (x2 + 1) ((kS (kS S.1 0 (upd (S.1 0) 10 ((S.1 0 10) + 1))) 5 (upd (S.1 5) (Int32.toNatClampNeg x2) ((S.1 14) (Int32.toNatClampNeg (S.1 0 10))))), S.2)
      else
        if x2 < 0 ∨ 5 ≤ (Int32.toNatClampNeg x2) then none else
        if (S.1 0 10) < 0 ∨ 120 ≤ (Int32.toNatClampNeg (S.1 0 10)) then none else
        f_X4_passes_3_L2 N_ n_ (x2 + 1) ((kS (kS S.1 0 (upd (S.1 0) 10 ((S.1 0 10) + 1))) 14 (upd (S.1 14) (Int32.toNatClampNeg (S.1 0 10)) ((S.1 5) (Int32.toNatClampNeg x2)))), S.2)
set_option maxRecDepth 100000 in
set_option maxHeartbeats 4000000 in
theorem k_X4_passes_3_L2 (l : Launch) (g : gE) {p : Program} {e : Env} {s : State} {m : MethodId} {args : Array Value} {below : List Frame} {meth : Method} {c : Code} {Q : State → Prop} {A : Nat → Prop} {b : Nat → Nat}  (C : Cx p s m args c g A cX4_passes 3 wA_X4_passes RX4) (N_ : Nat)  : ∀ (n_ : Nat) (x2 : Int32) (S : (Nat → Nat → Int32) × (Nat → Nat → Int64)) (rv_ : Int32 × ((Nat → Nat → Int32) × (Nat → Nat → Int64))), f_X4_passes_3_L2 N_ n_ x2 S = some rv_ → (Gm p l e (headSpec wA_X4_passes ({ frames := 0, cells := 0, slots := 0, locals := 0 } : Room)).room s m args below meth c Q g A 3 0 0 (wM g b rv_.2) [some (.ref (b 0)), some (.ref (b 5)), some (.int rv_.1)] [] 58) → Gm p l e (headSpec wA_X4_passes ({ frames := 0, cells := 0, slots := 0, locals := 0 } : Room)).room s m args below meth c Q g A 3 0 0 (wM g b S) [some (.ref (b 0)), some (.ref (b 5)), some (.int x2)] [] 2 := by
  intro n_
  induction n_ with
  | zero =>
    intro x2 S rv_ hR
    simp [f_X4_passes_3_L2] at hR
  | succ n_ ih =>
    intro x2 S rv_ hR hk
    rw [f_X4_passes_3_L2] at hR
    refine g_iload_n C dX4_passes_2 rfl 3 rfl ?_
    refine g_aload_n C dX4_passes_3 rfl 4 rfl ?_
    refine g_alen C 5 0 rfl rfl 5 (show Int32.ofNat 5 = 5 by decide) dX4_passes_4 5 rfl ?_
    refine g_icmp_ge C dX4_passes_5 hR 58 8 (by decide) rfl (fun c_5 hR => ?_) (fun c_5 hR => ?_)
    · obtain rfl := Option.some.inj hR
      refine g_lv [some (.ref (b 0)), some (.ref (b 5)), some (.int x2)] (lvLe.sm (lvLe.sm (lvLe.sm lvLe.nil))) ?_
      exact hk
    · refine g_aload_n C dX4_passes_8 rfl 9 rfl ?_
      refine g_get (v := .int (S.1 0 9)) C (hiC hiA_4) 0 rfl rfl 23 (by decide) (List.mem_cons_of_mem _ wl_238) rfl rfl dX4_passes_9 12 rfl ?_
      refine g_if_eq C dX4_passes_12 hR 30 15 (by decide) rfl (fun c_12 hR => ?_) (fun c_12 hR => ?_)
      · refine g_aload_n C dX4_passes_30 rfl 31 rfl ?_
        refine g_iload_n C dX4_passes_31 rfl 32 rfl ?_
        refine g_aload_n C dX4_passes_32 rfl 33 rfl ?_
        refine g_get (v := .ref (b 14)) C (hiC hiA_4) 0 rfl rfl 21 (by decide) (List.mem_cons_of_mem _ wl_79) rfl rfl dX4_passes_33 36 rfl ?_
        refine g_aload_n C dX4_passes_36 rfl 37 rfl ?_
        refine g_get (v := .int (S.1 0 10)) C (hiC hiA_4) 0 rfl rfl 24 (by decide) (List.mem_cons_of_mem _ wl_237) rfl rfl dX4_passes_37 40 rfl ?_
        obtain ⟨h_40, hR⟩ := opt_n hR
        refine g_iald (f := (S.1 14)) C 14 rfl h_40 dX4_passes_40 41 rfl ?_
        obtain ⟨h_41, hR⟩ := opt_n hR
        refine g_iast (f := (S.1 5)) C 5 rfl h_41 dX4_passes_41 (wMr g b (S.1 0 0) (S.1 0 1) (S.1 0 2) (S.1 0 3) (S.1 0 4) (S.1 0 5) (S.1 0 6) (S.1 0 7) (S.1 0 8) (S.1 0 9) (S.1 0 10) (S.1 0 11) (S.1 0 12) (S.1 0 13) (S.1 0 14) (S.1 1) (S.1 2) (S.1 3) (S.1 4) (upd (S.1 5) (Int32.toNatClampNeg x2) ((S.1 14) (Int32.toNatClampNeg (S.1 0 10)))) (S.1 6) (S.1 7) (S.1 8) (S.1 9) (S.1 10) (S.1 11) (S.1 12) (S.1 13) (S.1 14) (S.1 15) (S.1 16) (S.2 0) (S.2 1) (S.2 2)) rfl 42 rfl ?_
        refine g_aload_n C dX4_passes_42 rfl 43 rfl ?_
        refine g_dup C dX4_passes_43 rfl 44 rfl ?_
        refine g_get (v := .int (S.1 0 10)) C (hiC hiA_4) 0 rfl rfl 24 (by decide) (List.mem_cons_of_mem _ wl_237) rfl rfl dX4_passes_44 47 rfl ?_
        refine g_iconst C dX4_passes_47 1 ic_1 48 rfl ?_
        refine g_iadd C dX4_passes_48 49 rfl ?_
        refine g_put C (hiC hiA_4) tyX4 tyX4_ok nmX4 0 rfl rfl 24 (by decide) (List.mem_cons_of_mem _ wl_237) rfl rfl rfl rfl (Nat.le_of_ble_eq_true rfl) dX4_passes_49 (wMr g b (S.1 0 0) (S.1 0 1) (S.1 0 2) (S.1 0 3) (S.1 0 4) (S.1 0 5) (S.1 0 6) (S.1 0 7) (S.1 0 8) (S.1 0 9) ((S.1 0 10) + 1) (S.1 0 11) (S.1 0 12) (S.1 0 13) (S.1 0 14) (S.1 1) (S.1 2) (S.1 3) (S.1 4) (upd (S.1 5) (Int32.toNatClampNeg x2) ((S.1 14) (Int32.toNatClampNeg (S.1 0 10)))) (S.1 6) (S.1 7) (S.1 8) (S.1 9) (S.1 10) (S.1 11) (S.1 12) (S.1 13) (S.1 14) (S.1 15) (S.1 16) (S.2 0) (S.2 1) (S.2 2)) rfl 52 rfl ?_
        refine g_iinc C dX4_passes_52 rfl 1 ic_1 [_, _, _] (Nat.le_of_ble_eq_true rfl) rfl rfl 55 rfl ?_
        refine g_goto C dX4_passes_55 2 (by decide) ?_
        refine g_lv [some (.ref (b 0)), some (.ref (b 5)), some (.int (x2 + 1))] (lvLe.sm (lvLe.sm (lvLe.sm lvLe.nil))) ?_
        exact ih _ _ rv_ hR hk
      · refine g_aload_n C dX4_passes_15 rfl 16 rfl ?_
        refine g_get (v := .ref (b 14)) C (hiC hiA_4) 0 rfl rfl 21 (by decide) (List.mem_cons_of_mem _ wl_79) rfl rfl dX4_passes_16 19 rfl ?_
        refine g_aload_n C dX4_passes_19 rfl 20 rfl ?_
        refine g_get (v := .int (S.1 0 10)) C (hiC hiA_4) 0 rfl rfl 24 (by decide) (List.mem_cons_of_mem _ wl_237) rfl rfl dX4_passes_20 23 rfl ?_
        refine g_aload_n C dX4_passes_23 rfl 24 rfl ?_
        refine g_iload_n C dX4_passes_24 rfl 25 rfl ?_
        obtain ⟨h_25, hR⟩ := opt_n hR
        refine g_iald (f := (S.1 5)) C 5 rfl h_25 dX4_passes_25 26 rfl ?_
        obtain ⟨h_26, hR⟩ := opt_n hR
        refine g_iast (f := (S.1 14)) C 14 rfl h_26 dX4_passes_26 (wMr g b (S.1 0 0) (S.1 0 1) (S.1 0 2) (S.1 0 3) (S.1 0 4) (S.1 0 5) (S.1 0 6) (S.1 0 7) (S.1 0 8) (S.1 0 9) (S.1 0 10) (S.1 0 11) (S.1 0 12) (S.1 0 13) (S.1 0 14) (S.1 1) (S.1 2) (S.1 3) (S.1 4) (S.1 5) (S.1 6) (S.1 7) (S.1 8) (S.1 9) (S.1 10) (S.1 11) (S.1 12) (S.1 13) (upd (S.1 14) (Int32.toNatClampNeg (S.1 0 10)) ((S.1 5) (Int32.toNatClampNeg x2))) (S.1 15) (S.1 16) (S.2 0) (S.2 1) (S.2 2)) rfl 27 rfl ?_
        refine g_goto C dX4_passes_27 42 (by decide) ?_
        refine g_aload_n C dX4_passes_42 rfl 43 rfl ?_
        refine g_dup C dX4_passes_43 rfl 44 rfl ?_
        refine g_get (v := .int (S.1 0 10)) C (hiC hiA_4) 0 rfl rfl 24 (by decide) (List.mem_cons_of_mem _ wl_237) rfl rfl dX4_passes_44 47 rfl ?_
        refine g_iconst C dX4_passes_47 1 ic_1 48 rfl ?_
        refine g_iadd C dX4_passes_48 49 rfl ?_
        refine g_put C (hiC hiA_4) tyX4 tyX4_ok nmX4 0 rfl rfl 24 (by decide) (List.mem_cons_of_mem _ wl_237) rfl rfl rfl rfl (Nat.le_of_ble_eq_true rfl) dX4_passes_49 (wMr g b (S.1 0 0) (S.1 0 1) (S.1 0 2) (S.1 0 3) (S.1 0 4) (S.1 0 5) (S.1 0 6) (S.1 0 7) (S.1 0 8) (S.1 0 9) ((S.1 0 10) + 1) (S.1 0 11) (S.1 0 12) (S.1 0 13) (S.1 0 14) (S.1 1) (S.1 2) (S.1 3) (S.1 4) (S.1 5) (S.1 6) (S.1 7) (S.1 8) (S.1 9) (S.1 10) (S.1 11) (S.1 12) (S.1 13) (upd (S.1 14) (Int32.toNatClampNeg (S.1 0 10)) ((S.1 5) (Int32.toNatClampNeg x2))) (S.1 15) (S.1 16) (S.2 0) (S.2 1) (S.2 2)) rfl 52 rfl ?_
        refine g_iinc C dX4_passes_52 rfl 1 ic_1 [_, _, _] (Nat.le_of_ble_eq_true rfl) rfl rfl 55 rfl ?_
        refine g_goto C dX4_passes_55 2 (by decide) ?_
        refine g_lv [some (.ref (b 0)), some (.ref (b 5)), some (.int (x2 + 1))] (lvLe.sm (lvLe.sm (lvLe.sm lvLe.nil))) ?_
        exact ih _ _ rv_ hR hk
def f_X4_passes_3 (S : (Nat → Nat → Int32) × (Nat → Nat → Int64)) (N_ : Nat) : Option (((Nat → Nat → Int32) × (Nat → Nat → Int64))) :=
  (f_X4_passes_3_L2 N_ N_ 0 S).bind fun v1 =>
  some v1.2
set_option maxRecDepth 100000 in
set_option maxHeartbeats 4000000 in
theorem k_X4_passes_3 (l : Launch) (g : gE) (b : Nat → Nat) (S : (Nat → Nat → Int32) × (Nat → Nat → Int64)) (N_ : Nat) (R_ : ((Nat → Nat → Int32) × (Nat → Nat → Int64))) (hR : f_X4_passes_3 S N_ = some R_) : FnV l g yX4_passes wA_X4_passes { frames := 0, cells := 0, slots := 0, locals := 0 } [.ref (b 0), .ref (b 5)] (wM g b S)  (wM g b R_) := by
  refine fEntry (As := [.ref (b 0), .ref (b 5)]) (maxL := 3) (ret := none) (by decide) rfl [some (.ref (b 0)), some (.ref (b 5)), none] (Nat.le_of_ble_eq_true rfl) (lvInB.to (lvInB.sm (lvInB.sm (lvInB.nn lvInB.nil)))) ?_
  intro p e s m below meth c A C hr hlocks hname hA
  have C : Cx p s m _ c g A cX4_passes 3 wA_X4_passes RX4 := C
  rw [f_X4_passes_3] at hR
  refine g_iconst C dX4_passes_0 0 ic_0 1 rfl ?_
  refine g_istore_n C dX4_passes_1 [_, _, _] (Nat.le_of_ble_eq_true rfl) rfl rfl 2 rfl ?_
  refine g_lv [some (.ref (b 0)), some (.ref (b 5)), some (.int 0)] (lvLe.sm (lvLe.sm (lvLe.sm lvLe.nil))) ?_
  obtain ⟨v1, hv1, hR⟩ := opt_b hR
  refine k_X4_passes_3_L2 l g C N_  N_ 0 S _ hv1 ?_
  obtain rfl := Option.some.inj hR
  exact g_vret C hr hlocks hA (by first | (dsimp only; done) | rfl) dX4_passes_58
def f_X4_passes_4_L2  (N_ : Nat) : Nat → Int32 → ((Nat → Nat → Int32) × (Nat → Nat → Int64)) → Option (Int32 × ((Nat → Nat → Int32) × (Nat → Nat → Int64)))
  | 0, _, _ => none
  | n_ + 1, x2, S =>
    if 4 ≤ x2 then
      some (x2, S)
    else
      if (S.1 0 9) = 0 then
        if (S.1 0 10) < 0 ∨ 120 ≤ (Int32.toNatClampNeg (S.1 0 10)) then none else
        if x2 < 0 ∨ 4 ≤ (Int32.toNatClampNeg x2) then none else
        f_X4_passes_4_L2 N_ n_ (x2 + 1) ((kS (kS S.1 0 (upd (S.1 0) 10 ((S.1 0 10) + 1))) 6 (upd (S.1 6) (Int32.toNatClampNeg x2) ((S.1 14) (Int32.toNatClampNeg (S.1 0 10))))), S.2)
      else
        if x2 < 0 ∨ 4 ≤ (Int32.toNatClampNeg x2) then none else
        if (S.1 0 10) < 0 ∨ 120 ≤ (Int32.toNatClampNeg (S.1 0 10)) then none else
        f_X4_passes_4_L2 N_ n_ (x2 + 1) ((kS (kS S.1 0 (upd (S.1 0) 10 ((S.1 0 10) + 1))) 14 (upd (S.1 14) (Int32.toNatClampNeg (S.1 0 10)) ((S.1 6) (Int32.toNatClampNeg x2)))), S.2)
set_option maxRecDepth 100000 in
set_option maxHeartbeats 4000000 in
theorem k_X4_passes_4_L2 (l : Launch) (g : gE) {p : Program} {e : Env} {s : State} {m : MethodId} {args : Array Value} {below : List Frame} {meth : Method} {c : Code} {Q : State → Prop} {A : Nat → Prop} {b : Nat → Nat}  (C : Cx p s m args c g A cX4_passes 3 wA_X4_passes RX4) (N_ : Nat)  : ∀ (n_ : Nat) (x2 : Int32) (S : (Nat → Nat → Int32) × (Nat → Nat → Int64)) (rv_ : Int32 × ((Nat → Nat → Int32) × (Nat → Nat → Int64))), f_X4_passes_4_L2 N_ n_ x2 S = some rv_ → (Gm p l e (headSpec wA_X4_passes ({ frames := 0, cells := 0, slots := 0, locals := 0 } : Room)).room s m args below meth c Q g A 3 0 0 (wM g b rv_.2) [some (.ref (b 0)), some (.ref (b 6)), some (.int rv_.1)] [] 58) → Gm p l e (headSpec wA_X4_passes ({ frames := 0, cells := 0, slots := 0, locals := 0 } : Room)).room s m args below meth c Q g A 3 0 0 (wM g b S) [some (.ref (b 0)), some (.ref (b 6)), some (.int x2)] [] 2 := by
  intro n_
  induction n_ with
  | zero =>
    intro x2 S rv_ hR
    simp [f_X4_passes_4_L2] at hR
  | succ n_ ih =>
    intro x2 S rv_ hR hk
    rw [f_X4_passes_4_L2] at hR
    refine g_iload_n C dX4_passes_2 rfl 3 rfl ?_
    refine g_aload_n C dX4_passes_3 rfl 4 rfl ?_
    refine g_alen C 6 0 rfl rfl 4 (show Int32.ofNat 4 = 4 by decide) dX4_passes_4 5 rfl ?_
    refine g_icmp_ge C dX4_passes_5 hR 58 8 (by decide) rfl (fun c_5 hR => ?_) (fun c_5 hR => ?_)
    · obtain rfl := Option.some.inj hR
      refine g_lv [some (.ref (b 0)), some (.ref (b 6)), some (.int x2)] (lvLe.sm (lvLe.sm (lvLe.sm lvLe.nil))) ?_
      exact hk
    · refine g_aload_n C dX4_passes_8 rfl 9 rfl ?_
      refine g_get (v := .int (S.1 0 9)) C (hiC hiA_4) 0 rfl rfl 23 (by decide) (List.mem_cons_of_mem _ wl_238) rfl rfl dX4_passes_9 12 rfl ?_
      refine g_if_eq C dX4_passes_12 hR 30 15 (by decide) rfl (fun c_12 hR => ?_) (fun c_12 hR => ?_)
      · refine g_aload_n C dX4_passes_30 rfl 31 rfl ?_
        refine g_iload_n C dX4_passes_31 rfl 32 rfl ?_
        refine g_aload_n C dX4_passes_32 rfl 33 rfl ?_
        refine g_get (v := .ref (b 14)) C (hiC hiA_4) 0 rfl rfl 21 (by decide) (List.mem_cons_of_mem _ wl_79) rfl rfl dX4_passes_33 36 rfl ?_
        refine g_aload_n C dX4_passes_36 rfl 37 rfl ?_
        refine g_get (v := .int (S.1 0 10)) C (hiC hiA_4) 0 rfl rfl 24 (by decide) (List.mem_cons_of_mem _ wl_237) rfl rfl dX4_passes_37 40 rfl ?_
        obtain ⟨h_40, hR⟩ := opt_n hR
        refine g_iald (f := (S.1 14)) C 14 rfl h_40 dX4_passes_40 41 rfl ?_
        obtain ⟨h_41, hR⟩ := opt_n hR
        refine g_iast (f := (S.1 6)) C 6 rfl h_41 dX4_passes_41 (wMr g b (S.1 0 0) (S.1 0 1) (S.1 0 2) (S.1 0 3) (S.1 0 4) (S.1 0 5) (S.1 0 6) (S.1 0 7) (S.1 0 8) (S.1 0 9) (S.1 0 10) (S.1 0 11) (S.1 0 12) (S.1 0 13) (S.1 0 14) (S.1 1) (S.1 2) (S.1 3) (S.1 4) (S.1 5) (upd (S.1 6) (Int32.toNatClampNeg x2) ((S.1 14) (Int32.toNatClampNeg (S.1 0 10)))) (S.1 7) (S.1 8) (S.1 9) (S.1 10) (S.1 11) (S.1 12) (S.1 13) (S.1 14) (S.1 15) (S.1 16) (S.2 0) (S.2 1) (S.2 2)) rfl 42 rfl ?_
        refine g_aload_n C dX4_passes_42 rfl 43 rfl ?_
        refine g_dup C dX4_passes_43 rfl 44 rfl ?_
        refine g_get (v := .int (S.1 0 10)) C (hiC hiA_4) 0 rfl rfl 24 (by decide) (List.mem_cons_of_mem _ wl_237) rfl rfl dX4_passes_44 47 rfl ?_
        refine g_iconst C dX4_passes_47 1 ic_1 48 rfl ?_
        refine g_iadd C dX4_passes_48 49 rfl ?_
        refine g_put C (hiC hiA_4) tyX4 tyX4_ok nmX4 0 rfl rfl 24 (by decide) (List.mem_cons_of_mem _ wl_237) rfl rfl rfl rfl (Nat.le_of_ble_eq_true rfl) dX4_passes_49 (wMr g b (S.1 0 0) (S.1 0 1) (S.1 0 2) (S.1 0 3) (S.1 0 4) (S.1 0 5) (S.1 0 6) (S.1 0 7) (S.1 0 8) (S.1 0 9) ((S.1 0 10) + 1) (S.1 0 11) (S.1 0 12) (S.1 0 13) (S.1 0 14) (S.1 1) (S.1 2) (S.1 3) (S.1 4) (S.1 5) (upd (S.1 6) (Int32.toNatClampNeg x2) ((S.1 14) (Int32.toNatClampNeg (S.1 0 10)))) (S.1 7) (S.1 8) (S.1 9) (S.1 10) (S.1 11) (S.1 12) (S.1 13) (S.1 14) (S.1 15) (S.1 16) (S.2 0) (S.2 1) (S.2 2)) rfl 52 rfl ?_
        refine g_iinc C dX4_passes_52 rfl 1 ic_1 [_, _, _] (Nat.le_of_ble_eq_true rfl) rfl rfl 55 rfl ?_
        refine g_goto C dX4_passes_55 2 (by decide) ?_
        refine g_lv [some (.ref (b 0)), some (.ref (b 6)), some (.int (x2 + 1))] (lvLe.sm (lvLe.sm (lvLe.sm lvLe.nil))) ?_
        exact ih _ _ rv_ hR hk
      · refine g_aload_n C dX4_passes_15 rfl 16 rfl ?_
        refine g_get (v := .ref (b 14)) C (hiC hiA_4) 0 rfl rfl 21 (by decide) (List.mem_cons_of_mem _ wl_79) rfl rfl dX4_passes_16 19 rfl ?_
        refine g_aload_n C dX4_passes_19 rfl 20 rfl ?_
        refine g_get (v := .int (S.1 0 10)) C (hiC hiA_4) 0 rfl rfl 24 (by decide) (List.mem_cons_of_mem _ wl_237) rfl rfl dX4_passes_20 23 rfl ?_
        refine g_aload_n C dX4_passes_23 rfl 24 rfl ?_
        refine g_iload_n C dX4_passes_24 rfl 25 rfl ?_
        obtain ⟨h_25, hR⟩ := opt_n hR
        refine g_iald (f := (S.1 6)) C 6 rfl h_25 dX4_passes_25 26 rfl ?_
        obtain ⟨h_26, hR⟩ := opt_n hR
        refine g_iast (f := (S.1 14)) C 14 rfl h_26 dX4_passes_26 (wMr g b (S.1 0 0) (S.1 0 1) (S.1 0 2) (S.1 0 3) (S.1 0 4) (S.1 0 5) (S.1 0 6) (S.1 0 7) (S.1 0 8) (S.1 0 9) (S.1 0 10) (S.1 0 11) (S.1 0 12) (S.1 0 13) (S.1 0 14) (S.1 1) (S.1 2) (S.1 3) (S.1 4) (S.1 5) (S.1 6) (S.1 7) (S.1 8) (S.1 9) (S.1 10) (S.1 11) (S.1 12) (S.1 13) (upd (S.1 14) (Int32.toNatClampNeg (S.1 0 10)) ((S.1 6) (Int32.toNatClampNeg x2))) (S.1 15) (S.1 16) (S.2 0) (S.2 1) (S.2 2)) rfl 27 rfl ?_
        refine g_goto C dX4_passes_27 42 (by decide) ?_
        refine g_aload_n C dX4_passes_42 rfl 43 rfl ?_
        refine g_dup C dX4_passes_43 rfl 44 rfl ?_
        refine g_get (v := .int (S.1 0 10)) C (hiC hiA_4) 0 rfl rfl 24 (by decide) (List.mem_cons_of_mem _ wl_237) rfl rfl dX4_passes_44 47 rfl ?_
        refine g_iconst C dX4_passes_47 1 ic_1 48 rfl ?_
        refine g_iadd C dX4_passes_48 49 rfl ?_
        refine g_put C (hiC hiA_4) tyX4 tyX4_ok nmX4 0 rfl rfl 24 (by decide) (List.mem_cons_of_mem _ wl_237) rfl rfl rfl rfl (Nat.le_of_ble_eq_true rfl) dX4_passes_49 (wMr g b (S.1 0 0) (S.1 0 1) (S.1 0 2) (S.1 0 3) (S.1 0 4) (S.1 0 5) (S.1 0 6) (S.1 0 7) (S.1 0 8) (S.1 0 9) ((S.1 0 10) + 1) (S.1 0 11) (S.1 0 12) (S.1 0 13) (S.1 0 14) (S.1 1) (S.1 2) (S.1 3) (S.1 4) (S.1 5) (S.1 6) (S.1 7) (S.1 8) (S.1 9) (S.1 10) (S.1 11) (S.1 12) (S.1 13) (upd (S.1 14) (Int32.toNatClampNeg (S.1 0 10)) ((S.1 6) (Int32.toNatClampNeg x2))) (S.1 15) (S.1 16) (S.2 0) (S.2 1) (S.2 2)) rfl 52 rfl ?_
        refine g_iinc C dX4_passes_52 rfl 1 ic_1 [_, _, _] (Nat.le_of_ble_eq_true rfl) rfl rfl 55 rfl ?_
        refine g_goto C dX4_passes_55 2 (by decide) ?_
        refine g_lv [some (.ref (b 0)), some (.ref (b 6)), some (.int (x2 + 1))] (lvLe.sm (lvLe.sm (lvLe.sm lvLe.nil))) ?_
        exact ih _ _ rv_ hR hk
def f_X4_passes_4 (S : (Nat → Nat → Int32) × (Nat → Nat → Int64)) (N_ : Nat) : Option (((Nat → Nat → Int32) × (Nat → Nat → Int64))) :=
  (f_X4_passes_4_L2 N_ N_ 0 S).bind fun v1 =>
  some v1.2
set_option maxRecDepth 100000 in
set_option maxHeartbeats 4000000 in
theorem k_X4_passes_4 (l : Launch) (g : gE) (b : Nat → Nat) (S : (Nat → Nat → Int32) × (Nat → Nat → Int64)) (N_ : Nat) (R_ : ((Nat → Nat → Int32) × (Nat → Nat → Int64))) (hR : f_X4_passes_4 S N_ = some R_) : FnV l g yX4_passes wA_X4_passes { frames := 0, cells := 0, slots := 0, locals := 0 } [.ref (b 0), .ref (b 6)] (wM g b S)  (wM g b R_) := by
  refine fEntry (As := [.ref (b 0), .ref (b 6)]) (maxL := 3) (ret := none) (by decide) rfl [some (.ref (b 0)), some (.ref (b 6)), none] (Nat.le_of_ble_eq_true rfl) (lvInB.to (lvInB.sm (lvInB.sm (lvInB.nn lvInB.nil)))) ?_
  intro p e s m below meth c A C hr hlocks hname hA
  have C : Cx p s m _ c g A cX4_passes 3 wA_X4_passes RX4 := C
  rw [f_X4_passes_4] at hR
  refine g_iconst C dX4_passes_0 0 ic_0 1 rfl ?_
  refine g_istore_n C dX4_passes_1 [_, _, _] (Nat.le_of_ble_eq_true rfl) rfl rfl 2 rfl ?_
  refine g_lv [some (.ref (b 0)), some (.ref (b 6)), some (.int 0)] (lvLe.sm (lvLe.sm (lvLe.sm lvLe.nil))) ?_
  obtain ⟨v1, hv1, hR⟩ := opt_b hR
  refine k_X4_passes_4_L2 l g C N_  N_ 0 S _ hv1 ?_
  obtain rfl := Option.some.inj hR
  exact g_vret C hr hlocks hA (by first | (dsimp only; done) | rfl) dX4_passes_58
def f_X4_passes_5_L2  (N_ : Nat) : Nat → Int32 → ((Nat → Nat → Int32) × (Nat → Nat → Int64)) → Option (Int32 × ((Nat → Nat → Int32) × (Nat → Nat → Int64)))
  | 0, _, _ => none
  | n_ + 1, x2, S =>
    if 8 ≤ x2 then
      some (x2, S)
    else
      if (S.1 0 9) = 0 then
        if (S.1 0 10) < 0 ∨ 120 ≤ (Int32.toNatClampNeg (S.1 0 10)) then none else
        if x2 < 0 ∨ 8 ≤ (Int32.toNatClampNeg x2) then none else
        f_X4_passes_5_L2 N_ n_ (x2 + 1) ((kS (kS S.1 0 (upd (S.1 0) 10 ((S.1 0 10) + 1))) 7 (upd (S.1 7) (Int32.toNatClampNeg x2) ((S.1 14) (Int32.toNatClampNeg (S.1 0 10))))), S.2)
      else
        if x2 < 0 ∨ 8 ≤ (Int32.toNatClampNeg x2) then none else
        if (S.1 0 10) < 0 ∨ 120 ≤ (Int32.toNatClampNeg (S.1 0 10)) then none else
        f_X4_passes_5_L2 N_ n_ (x2 + 1) ((kS (kS S.1 0 (upd (S.1 0) 10 ((S.1 0 10) + 1))) 14 (upd (S.1 14) (Int32.toNatClampNeg (S.1 0 10)) ((S.1 7) (Int32.toNatClampNeg x2)))), S.2)
set_option maxRecDepth 100000 in
set_option maxHeartbeats 4000000 in
theorem k_X4_passes_5_L2 (l : Launch) (g : gE) {p : Program} {e : Env} {s : State} {m : MethodId} {args : Array Value} {below : List Frame} {meth : Method} {c : Code} {Q : State → Prop} {A : Nat → Prop} {b : Nat → Nat}  (C : Cx p s m args c g A cX4_passes 3 wA_X4_passes RX4) (N_ : Nat)  : ∀ (n_ : Nat) (x2 : Int32) (S : (Nat → Nat → Int32) × (Nat → Nat → Int64)) (rv_ : Int32 × ((Nat → Nat → Int32) × (Nat → Nat → Int64))), f_X4_passes_5_L2 N_ n_ x2 S = some rv_ → (Gm p l e (headSpec wA_X4_passes ({ frames := 0, cells := 0, slots := 0, locals := 0 } : Room)).room s m args below meth c Q g A 3 0 0 (wM g b rv_.2) [some (.ref (b 0)), some (.ref (b 7)), some (.int rv_.1)] [] 58) → Gm p l e (headSpec wA_X4_passes ({ frames := 0, cells := 0, slots := 0, locals := 0 } : Room)).room s m args below meth c Q g A 3 0 0 (wM g b S) [some (.ref (b 0)), some (.ref (b 7)), some (.int x2)] [] 2 := by
  intro n_
  induction n_ with
  | zero =>
    intro x2 S rv_ hR
    simp [f_X4_passes_5_L2] at hR
  | succ n_ ih =>
    intro x2 S rv_ hR hk
    rw [f_X4_passes_5_L2] at hR
    refine g_iload_n C dX4_passes_2 rfl 3 rfl ?_
    refine g_aload_n C dX4_passes_3 rfl 4 rfl ?_
    refine g_alen C 7 0 rfl rfl 8 (show Int32.ofNat 8 = 8 by decide) dX4_passes_4 5 rfl ?_
    refine g_icmp_ge C dX4_passes_5 hR 58 8 (by decide) rfl (fun c_5 hR => ?_) (fun c_5 hR => ?_)
    · obtain rfl := Option.some.inj hR
      refine g_lv [some (.ref (b 0)), some (.ref (b 7)), some (.int x2)] (lvLe.sm (lvLe.sm (lvLe.sm lvLe.nil))) ?_
      exact hk
    · refine g_aload_n C dX4_passes_8 rfl 9 rfl ?_
      refine g_get (v := .int (S.1 0 9)) C (hiC hiA_4) 0 rfl rfl 23 (by decide) (List.mem_cons_of_mem _ wl_238) rfl rfl dX4_passes_9 12 rfl ?_
      refine g_if_eq C dX4_passes_12 hR 30 15 (by decide) rfl (fun c_12 hR => ?_) (fun c_12 hR => ?_)
      · refine g_aload_n C dX4_passes_30 rfl 31 rfl ?_
        refine g_iload_n C dX4_passes_31 rfl 32 rfl ?_
        refine g_aload_n C dX4_passes_32 rfl 33 rfl ?_
        refine g_get (v := .ref (b 14)) C (hiC hiA_4) 0 rfl rfl 21 (by decide) (List.mem_cons_of_mem _ wl_79) rfl rfl dX4_passes_33 36 rfl ?_
        refine g_aload_n C dX4_passes_36 rfl 37 rfl ?_
        refine g_get (v := .int (S.1 0 10)) C (hiC hiA_4) 0 rfl rfl 24 (by decide) (List.mem_cons_of_mem _ wl_237) rfl rfl dX4_passes_37 40 rfl ?_
        obtain ⟨h_40, hR⟩ := opt_n hR
        refine g_iald (f := (S.1 14)) C 14 rfl h_40 dX4_passes_40 41 rfl ?_
        obtain ⟨h_41, hR⟩ := opt_n hR
        refine g_iast (f := (S.1 7)) C 7 rfl h_41 dX4_passes_41 (wMr g b (S.1 0 0) (S.1 0 1) (S.1 0 2) (S.1 0 3) (S.1 0 4) (S.1 0 5) (S.1 0 6) (S.1 0 7) (S.1 0 8) (S.1 0 9) (S.1 0 10) (S.1 0 11) (S.1 0 12) (S.1 0 13) (S.1 0 14) (S.1 1) (S.1 2) (S.1 3) (S.1 4) (S.1 5) (S.1 6) (upd (S.1 7) (Int32.toNatClampNeg x2) ((S.1 14) (Int32.toNatClampNeg (S.1 0 10)))) (S.1 8) (S.1 9) (S.1 10) (S.1 11) (S.1 12) (S.1 13) (S.1 14) (S.1 15) (S.1 16) (S.2 0) (S.2 1) (S.2 2)) rfl 42 rfl ?_
        refine g_aload_n C dX4_passes_42 rfl 43 rfl ?_
        refine g_dup C dX4_passes_43 rfl 44 rfl ?_
        refine g_get (v := .int (S.1 0 10)) C (hiC hiA_4) 0 rfl rfl 24 (by decide) (List.mem_cons_of_mem _ wl_237) rfl rfl dX4_passes_44 47 rfl ?_
        refine g_iconst C dX4_passes_47 1 ic_1 48 rfl ?_
        refine g_iadd C dX4_passes_48 49 rfl ?_
        refine g_put C (hiC hiA_4) tyX4 tyX4_ok nmX4 0 rfl rfl 24 (by decide) (List.mem_cons_of_mem _ wl_237) rfl rfl rfl rfl (Nat.le_of_ble_eq_true rfl) dX4_passes_49 (wMr g b (S.1 0 0) (S.1 0 1) (S.1 0 2) (S.1 0 3) (S.1 0 4) (S.1 0 5) (S.1 0 6) (S.1 0 7) (S.1 0 8) (S.1 0 9) ((S.1 0 10) + 1) (S.1 0 11) (S.1 0 12) (S.1 0 13) (S.1 0 14) (S.1 1) (S.1 2) (S.1 3) (S.1 4) (S.1 5) (S.1 6) (upd (S.1 7) (Int32.toNatClampNeg x2) ((S.1 14) (Int32.toNatClampNeg (S.1 0 10)))) (S.1 8) (S.1 9) (S.1 10) (S.1 11) (S.1 12) (S.1 13) (S.1 14) (S.1 15) (S.1 16) (S.2 0) (S.2 1) (S.2 2)) rfl 52 rfl ?_
        refine g_iinc C dX4_passes_52 rfl 1 ic_1 [_, _, _] (Nat.le_of_ble_eq_true rfl) rfl rfl 55 rfl ?_
        refine g_goto C dX4_passes_55 2 (by decide) ?_
        refine g_lv [some (.ref (b 0)), some (.ref (b 7)), some (.int (x2 + 1))] (lvLe.sm (lvLe.sm (lvLe.sm lvLe.nil))) ?_
        exact ih _ _ rv_ hR hk
      · refine g_aload_n C dX4_passes_15 rfl 16 rfl ?_
        refine g_get (v := .ref (b 14)) C (hiC hiA_4) 0 rfl rfl 21 (by decide) (List.mem_cons_of_mem _ wl_79) rfl rfl dX4_passes_16 19 rfl ?_
        refine g_aload_n C dX4_passes_19 rfl 20 rfl ?_
        refine g_get (v := .int (S.1 0 10)) C (hiC hiA_4) 0 rfl rfl 24 (by decide) (List.mem_cons_of_mem _ wl_237) rfl rfl dX4_passes_20 23 rfl ?_
        refine g_aload_n C dX4_passes_23 rfl 24 rfl ?_
        refine g_iload_n C dX4_passes_24 rfl 25 rfl ?_
        obtain ⟨h_25, hR⟩ := opt_n hR
        refine g_iald (f := (S.1 7)) C 7 rfl h_25 dX4_passes_25 26 rfl ?_
        obtain ⟨h_26, hR⟩ := opt_n hR
        refine g_iast (f := (S.1 14)) C 14 rfl h_26 dX4_passes_26 (wMr g b (S.1 0 0) (S.1 0 1) (S.1 0 2) (S.1 0 3) (S.1 0 4) (S.1 0 5) (S.1 0 6) (S.1 0 7) (S.1 0 8) (S.1 0 9) (S.1 0 10) (S.1 0 11) (S.1 0 12) (S.1 0 13) (S.1 0 14) (S.1 1) (S.1 2) (S.1 3) (S.1 4) (S.1 5) (S.1 6) (S.1 7) (S.1 8) (S.1 9) (S.1 10) (S.1 11) (S.1 12) (S.1 13) (upd (S.1 14) (Int32.toNatClampNeg (S.1 0 10)) ((S.1 7) (Int32.toNatClampNeg x2))) (S.1 15) (S.1 16) (S.2 0) (S.2 1) (S.2 2)) rfl 27 rfl ?_
        refine g_goto C dX4_passes_27 42 (by decide) ?_
        refine g_aload_n C dX4_passes_42 rfl 43 rfl ?_
        refine g_dup C dX4_passes_43 rfl 44 rfl ?_
        refine g_get (v := .int (S.1 0 10)) C (hiC hiA_4) 0 rfl rfl 24 (by decide) (List.mem_cons_of_mem _ wl_237) rfl rfl dX4_passes_44 47 rfl ?_
        refine g_iconst C dX4_passes_47 1 ic_1 48 rfl ?_
        refine g_iadd C dX4_passes_48 49 rfl ?_
        refine g_put C (hiC hiA_4) tyX4 tyX4_ok nmX4 0 rfl rfl 24 (by decide) (List.mem_cons_of_mem _ wl_237) rfl rfl rfl rfl (Nat.le_of_ble_eq_true rfl) dX4_passes_49 (wMr g b (S.1 0 0) (S.1 0 1) (S.1 0 2) (S.1 0 3) (S.1 0 4) (S.1 0 5) (S.1 0 6) (S.1 0 7) (S.1 0 8) (S.1 0 9) ((S.1 0 10) + 1) (S.1 0 11) (S.1 0 12) (S.1 0 13) (S.1 0 14) (S.1 1) (S.1 2) (S.1 3) (S.1 4) (S.1 5) (S.1 6) (S.1 7) (S.1 8) (S.1 9) (S.1 10) (S.1 11) (S.1 12) (S.1 13) (upd (S.1 14) (Int32.toNatClampNeg (S.1 0 10)) ((S.1 7) (Int32.toNatClampNeg x2))) (S.1 15) (S.1 16) (S.2 0) (S.2 1) (S.2 2)) rfl 52 rfl ?_
        refine g_iinc C dX4_passes_52 rfl 1 ic_1 [_, _, _] (Nat.le_of_ble_eq_true rfl) rfl rfl 55 rfl ?_
        refine g_goto C dX4_passes_55 2 (by decide) ?_
        refine g_lv [some (.ref (b 0)), some (.ref (b 7)), some (.int (x2 + 1))] (lvLe.sm (lvLe.sm (lvLe.sm lvLe.nil))) ?_
        exact ih _ _ rv_ hR hk
def f_X4_passes_5 (S : (Nat → Nat → Int32) × (Nat → Nat → Int64)) (N_ : Nat) : Option (((Nat → Nat → Int32) × (Nat → Nat → Int64))) :=
  (f_X4_passes_5_L2 N_ N_ 0 S).bind fun v1 =>
  some v1.2
set_option maxRecDepth 100000 in
set_option maxHeartbeats 4000000 in
theorem k_X4_passes_5 (l : Launch) (g : gE) (b : Nat → Nat) (S : (Nat → Nat → Int32) × (Nat → Nat → Int64)) (N_ : Nat) (R_ : ((Nat → Nat → Int32) × (Nat → Nat → Int64))) (hR : f_X4_passes_5 S N_ = some R_) : FnV l g yX4_passes wA_X4_passes { frames := 0, cells := 0, slots := 0, locals := 0 } [.ref (b 0), .ref (b 7)] (wM g b S)  (wM g b R_) := by
  refine fEntry (As := [.ref (b 0), .ref (b 7)]) (maxL := 3) (ret := none) (by decide) rfl [some (.ref (b 0)), some (.ref (b 7)), none] (Nat.le_of_ble_eq_true rfl) (lvInB.to (lvInB.sm (lvInB.sm (lvInB.nn lvInB.nil)))) ?_
  intro p e s m below meth c A C hr hlocks hname hA
  have C : Cx p s m _ c g A cX4_passes 3 wA_X4_passes RX4 := C
  rw [f_X4_passes_5] at hR
  refine g_iconst C dX4_passes_0 0 ic_0 1 rfl ?_
  refine g_istore_n C dX4_passes_1 [_, _, _] (Nat.le_of_ble_eq_true rfl) rfl rfl 2 rfl ?_
  refine g_lv [some (.ref (b 0)), some (.ref (b 7)), some (.int 0)] (lvLe.sm (lvLe.sm (lvLe.sm lvLe.nil))) ?_
  obtain ⟨v1, hv1, hR⟩ := opt_b hR
  refine k_X4_passes_5_L2 l g C N_  N_ 0 S _ hv1 ?_
  obtain rfl := Option.some.inj hR
  exact g_vret C hr hlocks hA (by first | (dsimp only; done) | rfl) dX4_passes_58
def f_X4_passes_6_L2  (N_ : Nat) : Nat → Int32 → ((Nat → Nat → Int32) × (Nat → Nat → Int64)) → Option (Int32 × ((Nat → Nat → Int32) × (Nat → Nat → Int64)))
  | 0, _, _ => none
  | n_ + 1, x2, S =>
    if 8 ≤ x2 then
      some (x2, S)
    else
      if (S.1 0 9) = 0 then
        if (S.1 0 10) < 0 ∨ 120 ≤ (Int32.toNatClampNeg (S.1 0 10)) then none else
        if x2 < 0 ∨ 8 ≤ (Int32.toNatClampNeg x2) then none else
        f_X4_passes_6_L2 N_ n_ (x2 + 1) ((kS (kS S.1 0 (upd (S.1 0) 10 ((S.1 0 10) + 1))) 8 (upd (S.1 8) (Int32.toNatClampNeg x2) ((S.1 14) (Int32.toNatClampNeg (S.1 0 10))))), S.2)
      else
        if x2 < 0 ∨ 8 ≤ (Int32.toNatClampNeg x2) then none else
        if (S.1 0 10) < 0 ∨ 120 ≤ (Int32.toNatClampNeg (S.1 0 10)) then none else
        f_X4_passes_6_L2 N_ n_ (x2 + 1) ((kS (kS S.1 0 (upd (S.1 0) 10 ((S.1 0 10) + 1))) 14 (upd (S.1 14) (Int32.toNatClampNeg (S.1 0 10)) ((S.1 8) (Int32.toNatClampNeg x2)))), S.2)
set_option maxRecDepth 100000 in
set_option maxHeartbeats 4000000 in
theorem k_X4_passes_6_L2 (l : Launch) (g : gE) {p : Program} {e : Env} {s : State} {m : MethodId} {args : Array Value} {below : List Frame} {meth : Method} {c : Code} {Q : State → Prop} {A : Nat → Prop} {b : Nat → Nat}  (C : Cx p s m args c g A cX4_passes 3 wA_X4_passes RX4) (N_ : Nat)  : ∀ (n_ : Nat) (x2 : Int32) (S : (Nat → Nat → Int32) × (Nat → Nat → Int64)) (rv_ : Int32 × ((Nat → Nat → Int32) × (Nat → Nat → Int64))), f_X4_passes_6_L2 N_ n_ x2 S = some rv_ → (Gm p l e (headSpec wA_X4_passes ({ frames := 0, cells := 0, slots := 0, locals := 0 } : Room)).room s m args below meth c Q g A 3 0 0 (wM g b rv_.2) [some (.ref (b 0)), some (.ref (b 8)), some (.int rv_.1)] [] 58) → Gm p l e (headSpec wA_X4_passes ({ frames := 0, cells := 0, slots := 0, locals := 0 } : Room)).room s m args below meth c Q g A 3 0 0 (wM g b S) [some (.ref (b 0)), some (.ref (b 8)), some (.int x2)] [] 2 := by
  intro n_
  induction n_ with
  | zero =>
    intro x2 S rv_ hR
    simp [f_X4_passes_6_L2] at hR
  | succ n_ ih =>
    intro x2 S rv_ hR hk
    rw [f_X4_passes_6_L2] at hR
    refine g_iload_n C dX4_passes_2 rfl 3 rfl ?_
    refine g_aload_n C dX4_passes_3 rfl 4 rfl ?_
    refine g_alen C 8 0 rfl rfl 8 (show Int32.ofNat 8 = 8 by decide) dX4_passes_4 5 rfl ?_
    refine g_icmp_ge C dX4_passes_5 hR 58 8 (by decide) rfl (fun c_5 hR => ?_) (fun c_5 hR => ?_)
    · obtain rfl := Option.some.inj hR
      refine g_lv [some (.ref (b 0)), some (.ref (b 8)), some (.int x2)] (lvLe.sm (lvLe.sm (lvLe.sm lvLe.nil))) ?_
      exact hk
    · refine g_aload_n C dX4_passes_8 rfl 9 rfl ?_
      refine g_get (v := .int (S.1 0 9)) C (hiC hiA_4) 0 rfl rfl 23 (by decide) (List.mem_cons_of_mem _ wl_238) rfl rfl dX4_passes_9 12 rfl ?_
      refine g_if_eq C dX4_passes_12 hR 30 15 (by decide) rfl (fun c_12 hR => ?_) (fun c_12 hR => ?_)
      · refine g_aload_n C dX4_passes_30 rfl 31 rfl ?_
        refine g_iload_n C dX4_passes_31 rfl 32 rfl ?_
        refine g_aload_n C dX4_passes_32 rfl 33 rfl ?_
        refine g_get (v := .ref (b 14)) C (hiC hiA_4) 0 rfl rfl 21 (by decide) (List.mem_cons_of_mem _ wl_79) rfl rfl dX4_passes_33 36 rfl ?_
        refine g_aload_n C dX4_passes_36 rfl 37 rfl ?_
        refine g_get (v := .int (S.1 0 10)) C (hiC hiA_4) 0 rfl rfl 24 (by decide) (List.mem_cons_of_mem _ wl_237) rfl rfl dX4_passes_37 40 rfl ?_
        obtain ⟨h_40, hR⟩ := opt_n hR
        refine g_iald (f := (S.1 14)) C 14 rfl h_40 dX4_passes_40 41 rfl ?_
        obtain ⟨h_41, hR⟩ := opt_n hR
        refine g_iast (f := (S.1 8)) C 8 rfl h_41 dX4_passes_41 (wMr g b (S.1 0 0) (S.1 0 1) (S.1 0 2) (S.1 0 3) (S.1 0 4) (S.1 0 5) (S.1 0 6) (S.1 0 7) (S.1 0 8) (S.1 0 9) (S.1 0 10) (S.1 0 11) (S.1 0 12) (S.1 0 13) (S.1 0 14) (S.1 1) (S.1 2) (S.1 3) (S.1 4) (S.1 5) (S.1 6) (S.1 7) (upd (S.1 8) (Int32.toNatClampNeg x2) ((S.1 14) (Int32.toNatClampNeg (S.1 0 10)))) (S.1 9) (S.1 10) (S.1 11) (S.1 12) (S.1 13) (S.1 14) (S.1 15) (S.1 16) (S.2 0) (S.2 1) (S.2 2)) rfl 42 rfl ?_
        refine g_aload_n C dX4_passes_42 rfl 43 rfl ?_
        refine g_dup C dX4_passes_43 rfl 44 rfl ?_
        refine g_get (v := .int (S.1 0 10)) C (hiC hiA_4) 0 rfl rfl 24 (by decide) (List.mem_cons_of_mem _ wl_237) rfl rfl dX4_passes_44 47 rfl ?_
        refine g_iconst C dX4_passes_47 1 ic_1 48 rfl ?_
        refine g_iadd C dX4_passes_48 49 rfl ?_
        refine g_put C (hiC hiA_4) tyX4 tyX4_ok nmX4 0 rfl rfl 24 (by decide) (List.mem_cons_of_mem _ wl_237) rfl rfl rfl rfl (Nat.le_of_ble_eq_true rfl) dX4_passes_49 (wMr g b (S.1 0 0) (S.1 0 1) (S.1 0 2) (S.1 0 3) (S.1 0 4) (S.1 0 5) (S.1 0 6) (S.1 0 7) (S.1 0 8) (S.1 0 9) ((S.1 0 10) + 1) (S.1 0 11) (S.1 0 12) (S.1 0 13) (S.1 0 14) (S.1 1) (S.1 2) (S.1 3) (S.1 4) (S.1 5) (S.1 6) (S.1 7) (upd (S.1 8) (Int32.toNatClampNeg x2) ((S.1 14) (Int32.toNatClampNeg (S.1 0 10)))) (S.1 9) (S.1 10) (S.1 11) (S.1 12) (S.1 13) (S.1 14) (S.1 15) (S.1 16) (S.2 0) (S.2 1) (S.2 2)) rfl 52 rfl ?_
        refine g_iinc C dX4_passes_52 rfl 1 ic_1 [_, _, _] (Nat.le_of_ble_eq_true rfl) rfl rfl 55 rfl ?_
        refine g_goto C dX4_passes_55 2 (by decide) ?_
        refine g_lv [some (.ref (b 0)), some (.ref (b 8)), some (.int (x2 + 1))] (lvLe.sm (lvLe.sm (lvLe.sm lvLe.nil))) ?_
        exact ih _ _ rv_ hR hk
      · refine g_aload_n C dX4_passes_15 rfl 16 rfl ?_
        refine g_get (v := .ref (b 14)) C (hiC hiA_4) 0 rfl rfl 21 (by decide) (List.mem_cons_of_mem _ wl_79) rfl rfl dX4_passes_16 19 rfl ?_
        refine g_aload_n C dX4_passes_19 rfl 20 rfl ?_
        refine g_get (v := .int (S.1 0 10)) C (hiC hiA_4) 0 rfl rfl 24 (by decide) (List.mem_cons_of_mem _ wl_237) rfl rfl dX4_passes_20 23 rfl ?_
        refine g_aload_n C dX4_passes_23 rfl 24 rfl ?_
        refine g_iload_n C dX4_passes_24 rfl 25 rfl ?_
        obtain ⟨h_25, hR⟩ := opt_n hR
        refine g_iald (f := (S.1 8)) C 8 rfl h_25 dX4_passes_25 26 rfl ?_
        obtain ⟨h_26, hR⟩ := opt_n hR
        refine g_iast (f := (S.1 14)) C 14 rfl h_26 dX4_passes_26 (wMr g b (S.1 0 0) (S.1 0 1) (S.1 0 2) (S.1 0 3) (S.1 0 4) (S.1 0 5) (S.1 0 6) (S.1 0 7) (S.1 0 8) (S.1 0 9) (S.1 0 10) (S.1 0 11) (S.1 0 12) (S.1 0 13) (S.1 0 14) (S.1 1) (S.1 2) (S.1 3) (S.1 4) (S.1 5) (S.1 6) (S.1 7) (S.1 8) (S.1 9) (S.1 10) (S.1 11) (S.1 12) (S.1 13) (upd (S.1 14) (Int32.toNatClampNeg (S.1 0 10)) ((S.1 8) (Int32.toNatClampNeg x2))) (S.1 15) (S.1 16) (S.2 0) (S.2 1) (S.2 2)) rfl 27 rfl ?_
        refine g_goto C dX4_passes_27 42 (by decide) ?_
        refine g_aload_n C dX4_passes_42 rfl 43 rfl ?_
        refine g_dup C dX4_passes_43 rfl 44 rfl ?_
        refine g_get (v := .int (S.1 0 10)) C (hiC hiA_4) 0 rfl rfl 24 (by decide) (List.mem_cons_of_mem _ wl_237) rfl rfl dX4_passes_44 47 rfl ?_
        refine g_iconst C dX4_passes_47 1 ic_1 48 rfl ?_
        refine g_iadd C dX4_passes_48 49 rfl ?_
        refine g_put C (hiC hiA_4) tyX4 tyX4_ok nmX4 0 rfl rfl 24 (by decide) (List.mem_cons_of_mem _ wl_237) rfl rfl rfl rfl (Nat.le_of_ble_eq_true rfl) dX4_passes_49 (wMr g b (S.1 0 0) (S.1 0 1) (S.1 0 2) (S.1 0 3) (S.1 0 4) (S.1 0 5) (S.1 0 6) (S.1 0 7) (S.1 0 8) (S.1 0 9) ((S.1 0 10) + 1) (S.1 0 11) (S.1 0 12) (S.1 0 13) (S.1 0 14) (S.1 1) (S.1 2) (S.1 3) (S.1 4) (S.1 5) (S.1 6) (S.1 7) (S.1 8) (S.1 9) (S.1 10) (S.1 11) (S.1 12) (S.1 13) (upd (S.1 14) (Int32.toNatClampNeg (S.1 0 10)) ((S.1 8) (Int32.toNatClampNeg x2))) (S.1 15) (S.1 16) (S.2 0) (S.2 1) (S.2 2)) rfl 52 rfl ?_
        refine g_iinc C dX4_passes_52 rfl 1 ic_1 [_, _, _] (Nat.le_of_ble_eq_true rfl) rfl rfl 55 rfl ?_
        refine g_goto C dX4_passes_55 2 (by decide) ?_
        refine g_lv [some (.ref (b 0)), some (.ref (b 8)), some (.int (x2 + 1))] (lvLe.sm (lvLe.sm (lvLe.sm lvLe.nil))) ?_
        exact ih _ _ rv_ hR hk
def f_X4_passes_6 (S : (Nat → Nat → Int32) × (Nat → Nat → Int64)) (N_ : Nat) : Option (((Nat → Nat → Int32) × (Nat → Nat → Int64))) :=
  (f_X4_passes_6_L2 N_ N_ 0 S).bind fun v1 =>
  some v1.2
set_option maxRecDepth 100000 in
set_option maxHeartbeats 4000000 in
theorem k_X4_passes_6 (l : Launch) (g : gE) (b : Nat → Nat) (S : (Nat → Nat → Int32) × (Nat → Nat → Int64)) (N_ : Nat) (R_ : ((Nat → Nat → Int32) × (Nat → Nat → Int64))) (hR : f_X4_passes_6 S N_ = some R_) : FnV l g yX4_passes wA_X4_passes { frames := 0, cells := 0, slots := 0, locals := 0 } [.ref (b 0), .ref (b 8)] (wM g b S)  (wM g b R_) := by
  refine fEntry (As := [.ref (b 0), .ref (b 8)]) (maxL := 3) (ret := none) (by decide) rfl [some (.ref (b 0)), some (.ref (b 8)), none] (Nat.le_of_ble_eq_true rfl) (lvInB.to (lvInB.sm (lvInB.sm (lvInB.nn lvInB.nil)))) ?_
  intro p e s m below meth c A C hr hlocks hname hA
  have C : Cx p s m _ c g A cX4_passes 3 wA_X4_passes RX4 := C
  rw [f_X4_passes_6] at hR
  refine g_iconst C dX4_passes_0 0 ic_0 1 rfl ?_
  refine g_istore_n C dX4_passes_1 [_, _, _] (Nat.le_of_ble_eq_true rfl) rfl rfl 2 rfl ?_
  refine g_lv [some (.ref (b 0)), some (.ref (b 8)), some (.int 0)] (lvLe.sm (lvLe.sm (lvLe.sm lvLe.nil))) ?_
  obtain ⟨v1, hv1, hR⟩ := opt_b hR
  refine k_X4_passes_6_L2 l g C N_  N_ 0 S _ hv1 ?_
  obtain rfl := Option.some.inj hR
  exact g_vret C hr hlocks hA (by first | (dsimp only; done) | rfl) dX4_passes_58
def f_X4_passes_7_L2  (N_ : Nat) : Nat → Int32 → ((Nat → Nat → Int32) × (Nat → Nat → Int64)) → Option (Int32 × ((Nat → Nat → Int32) × (Nat → Nat → Int64)))
  | 0, _, _ => none
  | n_ + 1, x2, S =>
    if 4 ≤ x2 then
      some (x2, S)
    else
      if (S.1 0 9) = 0 then
        if (S.1 0 10) < 0 ∨ 120 ≤ (Int32.toNatClampNeg (S.1 0 10)) then none else
        if x2 < 0 ∨ 4 ≤ (Int32.toNatClampNeg x2) then none else
        f_X4_passes_7_L2 N_ n_ (x2 + 1) ((kS (kS S.1 0 (upd (S.1 0) 10 ((S.1 0 10) + 1))) 9 (upd (S.1 9) (Int32.toNatClampNeg x2) ((S.1 14) (Int32.toNatClampNeg (S.1 0 10))))), S.2)
      else
        if x2 < 0 ∨ 4 ≤ (Int32.toNatClampNeg x2) then none else
        if (S.1 0 10) < 0 ∨ 120 ≤ (Int32.toNatClampNeg (S.1 0 10)) then none else
        f_X4_passes_7_L2 N_ n_ (x2 + 1) ((kS (kS S.1 0 (upd (S.1 0) 10 ((S.1 0 10) + 1))) 14 (upd (S.1 14) (Int32.toNatClampNeg (S.1 0 10)) ((S.1 9) (Int32.toNatClampNeg x2)))), S.2)
set_option maxRecDepth 100000 in
set_option maxHeartbeats 4000000 in
theorem k_X4_passes_7_L2 (l : Launch) (g : gE) {p : Program} {e : Env} {s : State} {m : MethodId} {args : Array Value} {below : List Frame} {meth : Method} {c : Code} {Q : State → Prop} {A : Nat → Prop} {b : Nat → Nat}  (C : Cx p s m args c g A cX4_passes 3 wA_X4_passes RX4) (N_ : Nat)  : ∀ (n_ : Nat) (x2 : Int32) (S : (Nat → Nat → Int32) × (Nat → Nat → Int64)) (rv_ : Int32 × ((Nat → Nat → Int32) × (Nat → Nat → Int64))), f_X4_passes_7_L2 N_ n_ x2 S = some rv_ → (Gm p l e (headSpec wA_X4_passes ({ frames := 0, cells := 0, slots := 0, locals := 0 } : Room)).room s m args below meth c Q g A 3 0 0 (wM g b rv_.2) [some (.ref (b 0)), some (.ref (b 9)), some (.int rv_.1)] [] 58) → Gm p l e (headSpec wA_X4_passes ({ frames := 0, cells := 0, slots := 0, locals := 0 } : Room)).room s m args below meth c Q g A 3 0 0 (wM g b S) [some (.ref (b 0)), some (.ref (b 9)), some (.int x2)] [] 2 := by
  intro n_
  induction n_ with
  | zero =>
    intro x2 S rv_ hR
    simp [f_X4_passes_7_L2] at hR
  | succ n_ ih =>
    intro x2 S rv_ hR hk
    rw [f_X4_passes_7_L2] at hR
    refine g_iload_n C dX4_passes_2 rfl 3 rfl ?_
    refine g_aload_n C dX4_passes_3 rfl 4 rfl ?_
    refine g_alen C 9 0 rfl rfl 4 (show Int32.ofNat 4 = 4 by decide) dX4_passes_4 5 rfl ?_
    refine g_icmp_ge C dX4_passes_5 hR 58 8 (by decide) rfl (fun c_5 hR => ?_) (fun c_5 hR => ?_)
    · obtain rfl := Option.some.inj hR
      refine g_lv [some (.ref (b 0)), some (.ref (b 9)), some (.int x2)] (lvLe.sm (lvLe.sm (lvLe.sm lvLe.nil))) ?_
      exact hk
    · refine g_aload_n C dX4_passes_8 rfl 9 rfl ?_
      refine g_get (v := .int (S.1 0 9)) C (hiC hiA_4) 0 rfl rfl 23 (by decide) (List.mem_cons_of_mem _ wl_238) rfl rfl dX4_passes_9 12 rfl ?_
      refine g_if_eq C dX4_passes_12 hR 30 15 (by decide) rfl (fun c_12 hR => ?_) (fun c_12 hR => ?_)
      · refine g_aload_n C dX4_passes_30 rfl 31 rfl ?_
        refine g_iload_n C dX4_passes_31 rfl 32 rfl ?_
        refine g_aload_n C dX4_passes_32 rfl 33 rfl ?_
        refine g_get (v := .ref (b 14)) C (hiC hiA_4) 0 rfl rfl 21 (by decide) (List.mem_cons_of_mem _ wl_79) rfl rfl dX4_passes_33 36 rfl ?_
        refine g_aload_n C dX4_passes_36 rfl 37 rfl ?_
        refine g_get (v := .int (S.1 0 10)) C (hiC hiA_4) 0 rfl rfl 24 (by decide) (List.mem_cons_of_mem _ wl_237) rfl rfl dX4_passes_37 40 rfl ?_
        obtain ⟨h_40, hR⟩ := opt_n hR
        refine g_iald (f := (S.1 14)) C 14 rfl h_40 dX4_passes_40 41 rfl ?_
        obtain ⟨h_41, hR⟩ := opt_n hR
        refine g_iast (f := (S.1 9)) C 9 rfl h_41 dX4_passes_41 (wMr g b (S.1 0 0) (S.1 0 1) (S.1 0 2) (S.1 0 3) (S.1 0 4) (S.1 0 5) (S.1 0 6) (S.1 0 7) (S.1 0 8) (S.1 0 9) (S.1 0 10) (S.1 0 11) (S.1 0 12) (S.1 0 13) (S.1 0 14) (S.1 1) (S.1 2) (S.1 3) (S.1 4) (S.1 5) (S.1 6) (S.1 7) (S.1 8) (upd (S.1 9) (Int32.toNatClampNeg x2) ((S.1 14) (Int32.toNatClampNeg (S.1 0 10)))) (S.1 10) (S.1 11) (S.1 12) (S.1 13) (S.1 14) (S.1 15) (S.1 16) (S.2 0) (S.2 1) (S.2 2)) rfl 42 rfl ?_
        refine g_aload_n C dX4_passes_42 rfl 43 rfl ?_
        refine g_dup C dX4_passes_43 rfl 44 rfl ?_
        refine g_get (v := .int (S.1 0 10)) C (hiC hiA_4) 0 rfl rfl 24 (by decide) (List.mem_cons_of_mem _ wl_237) rfl rfl dX4_passes_44 47 rfl ?_
        refine g_iconst C dX4_passes_47 1 ic_1 48 rfl ?_
        refine g_iadd C dX4_passes_48 49 rfl ?_
        refine g_put C (hiC hiA_4) tyX4 tyX4_ok nmX4 0 rfl rfl 24 (by decide) (List.mem_cons_of_mem _ wl_237) rfl rfl rfl rfl (Nat.le_of_ble_eq_true rfl) dX4_passes_49 (wMr g b (S.1 0 0) (S.1 0 1) (S.1 0 2) (S.1 0 3) (S.1 0 4) (S.1 0 5) (S.1 0 6) (S.1 0 7) (S.1 0 8) (S.1 0 9) ((S.1 0 10) + 1) (S.1 0 11) (S.1 0 12) (S.1 0 13) (S.1 0 14) (S.1 1) (S.1 2) (S.1 3) (S.1 4) (S.1 5) (S.1 6) (S.1 7) (S.1 8) (upd (S.1 9) (Int32.toNatClampNeg x2) ((S.1 14) (Int32.toNatClampNeg (S.1 0 10)))) (S.1 10) (S.1 11) (S.1 12) (S.1 13) (S.1 14) (S.1 15) (S.1 16) (S.2 0) (S.2 1) (S.2 2)) rfl 52 rfl ?_
        refine g_iinc C dX4_passes_52 rfl 1 ic_1 [_, _, _] (Nat.le_of_ble_eq_true rfl) rfl rfl 55 rfl ?_
        refine g_goto C dX4_passes_55 2 (by decide) ?_
        refine g_lv [some (.ref (b 0)), some (.ref (b 9)), some (.int (x2 + 1))] (lvLe.sm (lvLe.sm (lvLe.sm lvLe.nil))) ?_
        exact ih _ _ rv_ hR hk
      · refine g_aload_n C dX4_passes_15 rfl 16 rfl ?_
        refine g_get (v := .ref (b 14)) C (hiC hiA_4) 0 rfl rfl 21 (by decide) (List.mem_cons_of_mem _ wl_79) rfl rfl dX4_passes_16 19 rfl ?_
        refine g_aload_n C dX4_passes_19 rfl 20 rfl ?_
        refine g_get (v := .int (S.1 0 10)) C (hiC hiA_4) 0 rfl rfl 24 (by decide) (List.mem_cons_of_mem _ wl_237) rfl rfl dX4_passes_20 23 rfl ?_
        refine g_aload_n C dX4_passes_23 rfl 24 rfl ?_
        refine g_iload_n C dX4_passes_24 rfl 25 rfl ?_
        obtain ⟨h_25, hR⟩ := opt_n hR
        refine g_iald (f := (S.1 9)) C 9 rfl h_25 dX4_passes_25 26 rfl ?_
        obtain ⟨h_26, hR⟩ := opt_n hR
        refine g_iast (f := (S.1 14)) C 14 rfl h_26 dX4_passes_26 (wMr g b (S.1 0 0) (S.1 0 1) (S.1 0 2) (S.1 0 3) (S.1 0 4) (S.1 0 5) (S.1 0 6) (S.1 0 7) (S.1 0 8) (S.1 0 9) (S.1 0 10) (S.1 0 11) (S.1 0 12) (S.1 0 13) (S.1 0 14) (S.1 1) (S.1 2) (S.1 3) (S.1 4) (S.1 5) (S.1 6) (S.1 7) (S.1 8) (S.1 9) (S.1 10) (S.1 11) (S.1 12) (S.1 13) (upd (S.1 14) (Int32.toNatClampNeg (S.1 0 10)) ((S.1 9) (Int32.toNatClampNeg x2))) (S.1 15) (S.1 16) (S.2 0) (S.2 1) (S.2 2)) rfl 27 rfl ?_
        refine g_goto C dX4_passes_27 42 (by decide) ?_
        refine g_aload_n C dX4_passes_42 rfl 43 rfl ?_
        refine g_dup C dX4_passes_43 rfl 44 rfl ?_
        refine g_get (v := .int (S.1 0 10)) C (hiC hiA_4) 0 rfl rfl 24 (by decide) (List.mem_cons_of_mem _ wl_237) rfl rfl dX4_passes_44 47 rfl ?_
        refine g_iconst C dX4_passes_47 1 ic_1 48 rfl ?_
        refine g_iadd C dX4_passes_48 49 rfl ?_
        refine g_put C (hiC hiA_4) tyX4 tyX4_ok nmX4 0 rfl rfl 24 (by decide) (List.mem_cons_of_mem _ wl_237) rfl rfl rfl rfl (Nat.le_of_ble_eq_true rfl) dX4_passes_49 (wMr g b (S.1 0 0) (S.1 0 1) (S.1 0 2) (S.1 0 3) (S.1 0 4) (S.1 0 5) (S.1 0 6) (S.1 0 7) (S.1 0 8) (S.1 0 9) ((S.1 0 10) + 1) (S.1 0 11) (S.1 0 12) (S.1 0 13) (S.1 0 14) (S.1 1) (S.1 2) (S.1 3) (S.1 4) (S.1 5) (S.1 6) (S.1 7) (S.1 8) (S.1 9) (S.1 10) (S.1 11) (S.1 12) (S.1 13) (upd (S.1 14) (Int32.toNatClampNeg (S.1 0 10)) ((S.1 9) (Int32.toNatClampNeg x2))) (S.1 15) (S.1 16) (S.2 0) (S.2 1) (S.2 2)) rfl 52 rfl ?_
        refine g_iinc C dX4_passes_52 rfl 1 ic_1 [_, _, _] (Nat.le_of_ble_eq_true rfl) rfl rfl 55 rfl ?_
        refine g_goto C dX4_passes_55 2 (by decide) ?_
        refine g_lv [some (.ref (b 0)), some (.ref (b 9)), some (.int (x2 + 1))] (lvLe.sm (lvLe.sm (lvLe.sm lvLe.nil))) ?_
        exact ih _ _ rv_ hR hk
def f_X4_passes_7 (S : (Nat → Nat → Int32) × (Nat → Nat → Int64)) (N_ : Nat) : Option (((Nat → Nat → Int32) × (Nat → Nat → Int64))) :=
  (f_X4_passes_7_L2 N_ N_ 0 S).bind fun v1 =>
  some v1.2
set_option maxRecDepth 100000 in
set_option maxHeartbeats 4000000 in
theorem k_X4_passes_7 (l : Launch) (g : gE) (b : Nat → Nat) (S : (Nat → Nat → Int32) × (Nat → Nat → Int64)) (N_ : Nat) (R_ : ((Nat → Nat → Int32) × (Nat → Nat → Int64))) (hR : f_X4_passes_7 S N_ = some R_) : FnV l g yX4_passes wA_X4_passes { frames := 0, cells := 0, slots := 0, locals := 0 } [.ref (b 0), .ref (b 9)] (wM g b S)  (wM g b R_) := by
  refine fEntry (As := [.ref (b 0), .ref (b 9)]) (maxL := 3) (ret := none) (by decide) rfl [some (.ref (b 0)), some (.ref (b 9)), none] (Nat.le_of_ble_eq_true rfl) (lvInB.to (lvInB.sm (lvInB.sm (lvInB.nn lvInB.nil)))) ?_
  intro p e s m below meth c A C hr hlocks hname hA
  have C : Cx p s m _ c g A cX4_passes 3 wA_X4_passes RX4 := C
  rw [f_X4_passes_7] at hR
  refine g_iconst C dX4_passes_0 0 ic_0 1 rfl ?_
  refine g_istore_n C dX4_passes_1 [_, _, _] (Nat.le_of_ble_eq_true rfl) rfl rfl 2 rfl ?_
  refine g_lv [some (.ref (b 0)), some (.ref (b 9)), some (.int 0)] (lvLe.sm (lvLe.sm (lvLe.sm lvLe.nil))) ?_
  obtain ⟨v1, hv1, hR⟩ := opt_b hR
  refine k_X4_passes_7_L2 l g C N_  N_ 0 S _ hv1 ?_
  obtain rfl := Option.some.inj hR
  exact g_vret C hr hlocks hA (by first | (dsimp only; done) | rfl) dX4_passes_58
theorem hd_X4_passOne : yX4_passOne.cls = RX4 ∧ yX4_passOne.cls ≠ "java/lang/invoke/MethodHandle" ∧ yX4_passOne.cls ≠ "java/lang/invoke/VarHandle" ∧ (parseMethodDescriptor yX4_passOne.desc).map (fun d => d.parameters.length) = some 1 := by decide +kernel
def f_X4_passOne (S : (Nat → Nat → Int32) × (Nat → Nat → Int64)) (p0 : Int32) (N_ : Nat) : Option (Int32 × ((Nat → Nat → Int32) × (Nat → Nat → Int64))) :=
  if (S.1 0 9) = 0 then
    if (S.1 0 10) < 0 ∨ 120 ≤ (Int32.toNatClampNeg (S.1 0 10)) then none else
    some (((S.1 14) (Int32.toNatClampNeg (S.1 0 10))), ((kS S.1 0 (upd (S.1 0) 10 ((S.1 0 10) + 1))), S.2))
  else
    if (S.1 0 10) < 0 ∨ 120 ≤ (Int32.toNatClampNeg (S.1 0 10)) then none else
    some (p0, ((kS (kS S.1 0 (upd (S.1 0) 10 ((S.1 0 10) + 1))) 14 (upd (S.1 14) (Int32.toNatClampNeg (S.1 0 10)) p0)), S.2))
set_option maxRecDepth 100000 in
set_option maxHeartbeats 4000000 in
theorem k_X4_passOne (l : Launch) (g : gE) (b : Nat → Nat) (S : (Nat → Nat → Int32) × (Nat → Nat → Int64)) (p0 : Int32) (N_ : Nat) (R_ : Int32 × ((Nat → Nat → Int32) × (Nat → Nat → Int64))) (hR : f_X4_passOne S p0 N_ = some R_) : FnI l g yX4_passOne wA_X4_passOne { frames := 0, cells := 0, slots := 0, locals := 0 } [.ref (b 0), .int p0] (wM g b S) R_.1 (wM g b R_.2) := by
  refine fEntry (As := [.ref (b 0), .int p0]) (maxL := 3) (ret := (some .int)) (by decide) rfl [some (.ref (b 0)), some (.int p0), none] (Nat.le_of_ble_eq_true rfl) (lvInB.to (lvInB.sm (lvInB.sm (lvInB.nn lvInB.nil)))) ?_
  intro p e s m below meth c A C hr hlocks hname hA
  have C : Cx p s m _ c g A cX4_passOne 3 wA_X4_passOne RX4 := C
  rw [f_X4_passOne] at hR
  refine g_aload_n C dX4_passOne_0 rfl 1 rfl ?_
  refine g_get (v := .int (S.1 0 9)) C (hiC hiA_4) 0 rfl rfl 23 (by decide) (List.mem_cons_of_mem _ wl_238) rfl rfl dX4_passOne_1 4 rfl ?_
  refine g_if_eq C dX4_passOne_4 hR 11 7 (by decide) rfl (fun c_4 hR => ?_) (fun c_4 hR => ?_)
  · refine g_aload_n C dX4_passOne_11 rfl 12 rfl ?_
    refine g_get (v := .ref (b 14)) C (hiC hiA_4) 0 rfl rfl 21 (by decide) (List.mem_cons_of_mem _ wl_79) rfl rfl dX4_passOne_12 15 rfl ?_
    refine g_aload_n C dX4_passOne_15 rfl 16 rfl ?_
    refine g_get (v := .int (S.1 0 10)) C (hiC hiA_4) 0 rfl rfl 24 (by decide) (List.mem_cons_of_mem _ wl_237) rfl rfl dX4_passOne_16 19 rfl ?_
    obtain ⟨h_19, hR⟩ := opt_n hR
    refine g_iald (f := (S.1 14)) C 14 rfl h_19 dX4_passOne_19 20 rfl ?_
    refine g_istore_n C dX4_passOne_20 [_, _, _] (Nat.le_of_ble_eq_true rfl) rfl rfl 21 rfl ?_
    refine g_aload_n C dX4_passOne_21 rfl 22 rfl ?_
    refine g_get (v := .int (S.1 0 9)) C (hiC hiA_4) 0 rfl rfl 23 (by decide) (List.mem_cons_of_mem _ wl_238) rfl rfl dX4_passOne_22 25 rfl ?_
    refine g_if_eqT C dX4_passOne_25 c_4 38 (by decide) ?_
    refine g_aload_n C dX4_passOne_38 rfl 39 rfl ?_
    refine g_dup C dX4_passOne_39 rfl 40 rfl ?_
    refine g_get (v := .int (S.1 0 10)) C (hiC hiA_4) 0 rfl rfl 24 (by decide) (List.mem_cons_of_mem _ wl_237) rfl rfl dX4_passOne_40 43 rfl ?_
    refine g_iconst C dX4_passOne_43 1 ic_1 44 rfl ?_
    refine g_iadd C dX4_passOne_44 45 rfl ?_
    refine g_put C (hiC hiA_4) tyX4 tyX4_ok nmX4 0 rfl rfl 24 (by decide) (List.mem_cons_of_mem _ wl_237) rfl rfl rfl rfl (Nat.le_of_ble_eq_true rfl) dX4_passOne_45 (wMr g b (S.1 0 0) (S.1 0 1) (S.1 0 2) (S.1 0 3) (S.1 0 4) (S.1 0 5) (S.1 0 6) (S.1 0 7) (S.1 0 8) (S.1 0 9) ((S.1 0 10) + 1) (S.1 0 11) (S.1 0 12) (S.1 0 13) (S.1 0 14) (S.1 1) (S.1 2) (S.1 3) (S.1 4) (S.1 5) (S.1 6) (S.1 7) (S.1 8) (S.1 9) (S.1 10) (S.1 11) (S.1 12) (S.1 13) (S.1 14) (S.1 15) (S.1 16) (S.2 0) (S.2 1) (S.2 2)) rfl 48 rfl ?_
    refine g_iload_n C dX4_passOne_48 rfl 49 rfl ?_
    obtain rfl := Option.some.inj hR
    exact g_iret C hr hlocks hA (by first | (dsimp only; done) | rfl) (by first | (dsimp only; done) | rfl) dX4_passOne_49
  · refine g_iload_n C dX4_passOne_7 rfl 8 rfl ?_
    refine g_goto C dX4_passOne_8 20 (by decide) ?_
    refine g_istore_n C dX4_passOne_20 [_, _, _] (Nat.le_of_ble_eq_true rfl) rfl rfl 21 rfl ?_
    refine g_aload_n C dX4_passOne_21 rfl 22 rfl ?_
    refine g_get (v := .int (S.1 0 9)) C (hiC hiA_4) 0 rfl rfl 23 (by decide) (List.mem_cons_of_mem _ wl_238) rfl rfl dX4_passOne_22 25 rfl ?_
    refine g_if_eqF C dX4_passOne_25 c_4 38 28 (by decide) rfl ?_
    refine g_aload_n C dX4_passOne_28 rfl 29 rfl ?_
    refine g_get (v := .ref (b 14)) C (hiC hiA_4) 0 rfl rfl 21 (by decide) (List.mem_cons_of_mem _ wl_79) rfl rfl dX4_passOne_29 32 rfl ?_
    refine g_aload_n C dX4_passOne_32 rfl 33 rfl ?_
    refine g_get (v := .int (S.1 0 10)) C (hiC hiA_4) 0 rfl rfl 24 (by decide) (List.mem_cons_of_mem _ wl_237) rfl rfl dX4_passOne_33 36 rfl ?_
    refine g_iload_n C dX4_passOne_36 rfl 37 rfl ?_
    obtain ⟨h_37, hR⟩ := opt_n hR
    refine g_iast (f := (S.1 14)) C 14 rfl h_37 dX4_passOne_37 (wMr g b (S.1 0 0) (S.1 0 1) (S.1 0 2) (S.1 0 3) (S.1 0 4) (S.1 0 5) (S.1 0 6) (S.1 0 7) (S.1 0 8) (S.1 0 9) (S.1 0 10) (S.1 0 11) (S.1 0 12) (S.1 0 13) (S.1 0 14) (S.1 1) (S.1 2) (S.1 3) (S.1 4) (S.1 5) (S.1 6) (S.1 7) (S.1 8) (S.1 9) (S.1 10) (S.1 11) (S.1 12) (S.1 13) (upd (S.1 14) (Int32.toNatClampNeg (S.1 0 10)) p0) (S.1 15) (S.1 16) (S.2 0) (S.2 1) (S.2 2)) rfl 38 rfl ?_
    refine g_aload_n C dX4_passOne_38 rfl 39 rfl ?_
    refine g_dup C dX4_passOne_39 rfl 40 rfl ?_
    refine g_get (v := .int (S.1 0 10)) C (hiC hiA_4) 0 rfl rfl 24 (by decide) (List.mem_cons_of_mem _ wl_237) rfl rfl dX4_passOne_40 43 rfl ?_
    refine g_iconst C dX4_passOne_43 1 ic_1 44 rfl ?_
    refine g_iadd C dX4_passOne_44 45 rfl ?_
    refine g_put C (hiC hiA_4) tyX4 tyX4_ok nmX4 0 rfl rfl 24 (by decide) (List.mem_cons_of_mem _ wl_237) rfl rfl rfl rfl (Nat.le_of_ble_eq_true rfl) dX4_passOne_45 (wMr g b (S.1 0 0) (S.1 0 1) (S.1 0 2) (S.1 0 3) (S.1 0 4) (S.1 0 5) (S.1 0 6) (S.1 0 7) (S.1 0 8) (S.1 0 9) ((S.1 0 10) + 1) (S.1 0 11) (S.1 0 12) (S.1 0 13) (S.1 0 14) (S.1 1) (S.1 2) (S.1 3) (S.1 4) (S.1 5) (S.1 6) (S.1 7) (S.1 8) (S.1 9) (S.1 10) (S.1 11) (S.1 12) (S.1 13) (upd (S.1 14) (Int32.toNatClampNeg (S.1 0 10)) p0) (S.1 15) (S.1 16) (S.2 0) (S.2 1) (S.2 2)) rfl 48 rfl ?_
    refine g_iload_n C dX4_passOne_48 rfl 49 rfl ?_
    obtain rfl := Option.some.inj hR
    exact g_iret C hr hlocks hA (by first | (dsimp only; done) | rfl) (by first | (dsimp only; done) | rfl) dX4_passOne_49
theorem hd_X4_passesAll : yX4_passesAll.cls = RX4 ∧ yX4_passesAll.cls ≠ "java/lang/invoke/MethodHandle" ∧ yX4_passesAll.cls ≠ "java/lang/invoke/VarHandle" ∧ (parseMethodDescriptor yX4_passesAll.desc).map (fun d => d.parameters.length) = some 2 := by decide +kernel
def f_X4_passesAll (S : (Nat → Nat → Int32) × (Nat → Nat → Int64)) (p0 : Int32) (q1 : Bool) (N_ : Nat) : Option (((Nat → Nat → Int32) × (Nat → Nat → Int64))) :=
  (f_X4_passes_0 ((kS S.1 0 (upd (upd (S.1 0) 9 (b2i q1)) 10 (60 * p0))), S.2) N_).bind fun v1 =>
  (f_X4_passes_1 v1 N_).bind fun v2 =>
  (f_X4_passes_2 v2 N_).bind fun v3 =>
  (f_X4_passes_3 v3 N_).bind fun v4 =>
  (f_X4_passes_4 v4 N_).bind fun v5 =>
  (f_X4_passes_5 v5 N_).bind fun v6 =>
  (f_X4_passes_6 v6 N_).bind fun v7 =>
  (f_X4_passes_7 v7 N_).bind fun v8 =>
  (f_X4_passOne v8 (v8.1 0 0) N_).bind fun v9 =>
  (f_X4_passOne ((kS v9.2.1 0 (upd (v9.2.1 0) 0 v9.1)), v9.2.2) (v9.2.1 0 1) N_).bind fun v10 =>
  (f_X4_passOne ((kS v10.2.1 0 (upd (v10.2.1 0) 1 v10.1)), v10.2.2) (v10.2.1 0 2) N_).bind fun v11 =>
  (f_X4_passOne ((kS v11.2.1 0 (upd (v11.2.1 0) 2 v11.1)), v11.2.2) (v11.2.1 0 3) N_).bind fun v12 =>
  (f_X4_passOne ((kS v12.2.1 0 (upd (v12.2.1 0) 3 v12.1)), v12.2.2) (v12.2.1 0 4) N_).bind fun v13 =>
  some ((kS v13.2.1 0 (upd (v13.2.1 0) 4 v13.1)), v13.2.2)
set_option maxRecDepth 100000 in
set_option maxHeartbeats 4000000 in
theorem k_X4_passesAll (l : Launch) (g : gE) (b : Nat → Nat) (S : (Nat → Nat → Int32) × (Nat → Nat → Int64)) (p0 : Int32) (q1 : Bool) (N_ : Nat) (R_ : ((Nat → Nat → Int32) × (Nat → Nat → Int64))) (hR : f_X4_passesAll S p0 q1 N_ = some R_) : FnV l g yX4_passesAll wA_X4_passesAll { frames := 1, cells := 0, slots := 0, locals := 22 } [.ref (b 0), .int p0, .int (b2i q1)] (wM g b S)  (wM g b R_) := by
  refine fEntry (As := [.ref (b 0), .int p0, .int (b2i q1)]) (maxL := 3) (ret := none) (by decide) rfl [some (.ref (b 0)), some (.int p0), some (.int (b2i q1))] (Nat.le_of_ble_eq_true rfl) (lvInB.to (lvInB.sm (lvInB.sm (lvInB.sm lvInB.nil)))) ?_
  intro p e s m below meth c A C hr hlocks hname hA
  have C : Cx p s m _ c g A cX4_passesAll 3 wA_X4_passesAll RX4 := C
  rw [f_X4_passesAll] at hR
  refine g_aload_n C dX4_passesAll_0 rfl 1 rfl ?_
  refine g_bipush C dX4_passesAll_1 60 bp_60 3 rfl ?_
  refine g_iload_n C dX4_passesAll_3 rfl 4 rfl ?_
  refine g_imul C dX4_passesAll_4 5 rfl ?_
  refine g_put C (hiC hiA_4) tyX4 tyX4_ok nmX4 0 rfl rfl 24 (by decide) (List.mem_cons_of_mem _ wl_237) rfl rfl rfl rfl (Nat.le_of_ble_eq_true rfl) dX4_passesAll_5 (wMr g b (S.1 0 0) (S.1 0 1) (S.1 0 2) (S.1 0 3) (S.1 0 4) (S.1 0 5) (S.1 0 6) (S.1 0 7) (S.1 0 8) (S.1 0 9) (60 * p0) (S.1 0 11) (S.1 0 12) (S.1 0 13) (S.1 0 14) (S.1 1) (S.1 2) (S.1 3) (S.1 4) (S.1 5) (S.1 6) (S.1 7) (S.1 8) (S.1 9) (S.1 10) (S.1 11) (S.1 12) (S.1 13) (S.1 14) (S.1 15) (S.1 16) (S.2 0) (S.2 1) (S.2 2)) rfl 8 rfl ?_
  refine g_aload_n C dX4_passesAll_8 rfl 9 rfl ?_
  refine g_iload_n C dX4_passesAll_9 rfl 10 rfl ?_
  refine g_put C (hiC hiA_4) tyX4 tyX4_ok nmX4 0 rfl rfl 23 (by decide) (List.mem_cons_of_mem _ wl_238) rfl rfl (b2i_nar _) (b2i_fit _) (Nat.le_of_ble_eq_true rfl) dX4_passesAll_10 (wMr g b (S.1 0 0) (S.1 0 1) (S.1 0 2) (S.1 0 3) (S.1 0 4) (S.1 0 5) (S.1 0 6) (S.1 0 7) (S.1 0 8) (b2i q1) (60 * p0) (S.1 0 11) (S.1 0 12) (S.1 0 13) (S.1 0 14) (S.1 1) (S.1 2) (S.1 3) (S.1 4) (S.1 5) (S.1 6) (S.1 7) (S.1 8) (S.1 9) (S.1 10) (S.1 11) (S.1 12) (S.1 13) (S.1 14) (S.1 15) (S.1 16) (S.2 0) (S.2 1) (S.2 2)) rfl 13 rfl ?_
  refine g_aload_n C dX4_passesAll_13 rfl 14 rfl ?_
  refine g_aload_n C dX4_passesAll_14 rfl 15 rfl ?_
  refine g_get (v := .ref (b 2)) C (hiC hiA_4) 0 rfl rfl 1 (by decide) (List.mem_cons_of_mem _ wl_67) rfl rfl dX4_passesAll_15 18 rfl ?_
  obtain ⟨v1, hv1, hR⟩ := opt_b hR
  refine g_callV C (rn_V C (k_X4_passes_0 l g b ((kS S.1 0 (upd (upd (S.1 0) 9 (b2i q1)) 10 (60 * p0))), S.2) N_ v1 hv1) (cwV 1 C.1.2.2.2.2 (gdV wl_246 wl_243 wl_244 wl_245 wl_5) rfl rfl rfl hd_X4_passes ⟨Nat.le_of_ble_eq_true rfl, Nat.le_of_ble_eq_true rfl⟩) 0 rfl rfl _ rg_C rg_n rfl rfl (Nat.le_of_ble_eq_true rfl) ⟨Nat.zero_le _, Nat.zero_le _⟩ dX4_passesAll_18) (wM g b v1) (rg_put (wM_len.trans wMr_len.symm)) (rg_len (wM_len.trans wMr_len.symm)) 21 rfl ?_
  refine g_aload_n C dX4_passesAll_21 rfl 22 rfl ?_
  refine g_aload_n C dX4_passesAll_22 rfl 23 rfl ?_
  refine g_get (v := .ref (b 3)) C (hiC hiA_4) 0 rfl rfl 2 (by decide) (List.mem_cons_of_mem _ wl_68) rfl rfl dX4_passesAll_23 26 rfl ?_
  obtain ⟨v2, hv2, hR⟩ := opt_b hR
  refine g_callV C (rn_V C (k_X4_passes_1 l g b v1 N_ v2 hv2) (cwV 1 C.1.2.2.2.2 (gdV wl_246 wl_243 wl_244 wl_245 wl_5) rfl rfl rfl hd_X4_passes ⟨Nat.le_of_ble_eq_true rfl, Nat.le_of_ble_eq_true rfl⟩) 0 rfl rfl _ rg_C rg_n rfl rfl (Nat.le_of_ble_eq_true rfl) ⟨Nat.zero_le _, Nat.zero_le _⟩ dX4_passesAll_26) (wM g b v2) (rg_put (wM_len.trans wM_len.symm)) (rg_len (wM_len.trans wM_len.symm)) 29 rfl ?_
  refine g_aload_n C dX4_passesAll_29 rfl 30 rfl ?_
  refine g_aload_n C dX4_passesAll_30 rfl 31 rfl ?_
  refine g_get (v := .ref (b 4)) C (hiC hiA_4) 0 rfl rfl 3 (by decide) (List.mem_cons_of_mem _ wl_69) rfl rfl dX4_passesAll_31 34 rfl ?_
  obtain ⟨v3, hv3, hR⟩ := opt_b hR
  refine g_callV C (rn_V C (k_X4_passes_2 l g b v2 N_ v3 hv3) (cwV 1 C.1.2.2.2.2 (gdV wl_246 wl_243 wl_244 wl_245 wl_5) rfl rfl rfl hd_X4_passes ⟨Nat.le_of_ble_eq_true rfl, Nat.le_of_ble_eq_true rfl⟩) 0 rfl rfl _ rg_C rg_n rfl rfl (Nat.le_of_ble_eq_true rfl) ⟨Nat.zero_le _, Nat.zero_le _⟩ dX4_passesAll_34) (wM g b v3) (rg_put (wM_len.trans wM_len.symm)) (rg_len (wM_len.trans wM_len.symm)) 37 rfl ?_
  refine g_aload_n C dX4_passesAll_37 rfl 38 rfl ?_
  refine g_aload_n C dX4_passesAll_38 rfl 39 rfl ?_
  refine g_get (v := .ref (b 5)) C (hiC hiA_4) 0 rfl rfl 4 (by decide) (List.mem_cons_of_mem _ wl_70) rfl rfl dX4_passesAll_39 42 rfl ?_
  obtain ⟨v4, hv4, hR⟩ := opt_b hR
  refine g_callV C (rn_V C (k_X4_passes_3 l g b v3 N_ v4 hv4) (cwV 1 C.1.2.2.2.2 (gdV wl_246 wl_243 wl_244 wl_245 wl_5) rfl rfl rfl hd_X4_passes ⟨Nat.le_of_ble_eq_true rfl, Nat.le_of_ble_eq_true rfl⟩) 0 rfl rfl _ rg_C rg_n rfl rfl (Nat.le_of_ble_eq_true rfl) ⟨Nat.zero_le _, Nat.zero_le _⟩ dX4_passesAll_42) (wM g b v4) (rg_put (wM_len.trans wM_len.symm)) (rg_len (wM_len.trans wM_len.symm)) 45 rfl ?_
  refine g_aload_n C dX4_passesAll_45 rfl 46 rfl ?_
  refine g_aload_n C dX4_passesAll_46 rfl 47 rfl ?_
  refine g_get (v := .ref (b 6)) C (hiC hiA_4) 0 rfl rfl 5 (by decide) (List.mem_cons_of_mem _ wl_71) rfl rfl dX4_passesAll_47 50 rfl ?_
  obtain ⟨v5, hv5, hR⟩ := opt_b hR
  refine g_callV C (rn_V C (k_X4_passes_4 l g b v4 N_ v5 hv5) (cwV 1 C.1.2.2.2.2 (gdV wl_246 wl_243 wl_244 wl_245 wl_5) rfl rfl rfl hd_X4_passes ⟨Nat.le_of_ble_eq_true rfl, Nat.le_of_ble_eq_true rfl⟩) 0 rfl rfl _ rg_C rg_n rfl rfl (Nat.le_of_ble_eq_true rfl) ⟨Nat.zero_le _, Nat.zero_le _⟩ dX4_passesAll_50) (wM g b v5) (rg_put (wM_len.trans wM_len.symm)) (rg_len (wM_len.trans wM_len.symm)) 53 rfl ?_
  refine g_aload_n C dX4_passesAll_53 rfl 54 rfl ?_
  refine g_aload_n C dX4_passesAll_54 rfl 55 rfl ?_
  refine g_get (v := .ref (b 7)) C (hiC hiA_4) 0 rfl rfl 6 (by decide) (List.mem_cons_of_mem _ wl_72) rfl rfl dX4_passesAll_55 58 rfl ?_
  obtain ⟨v6, hv6, hR⟩ := opt_b hR
  refine g_callV C (rn_V C (k_X4_passes_5 l g b v5 N_ v6 hv6) (cwV 1 C.1.2.2.2.2 (gdV wl_246 wl_243 wl_244 wl_245 wl_5) rfl rfl rfl hd_X4_passes ⟨Nat.le_of_ble_eq_true rfl, Nat.le_of_ble_eq_true rfl⟩) 0 rfl rfl _ rg_C rg_n rfl rfl (Nat.le_of_ble_eq_true rfl) ⟨Nat.zero_le _, Nat.zero_le _⟩ dX4_passesAll_58) (wM g b v6) (rg_put (wM_len.trans wM_len.symm)) (rg_len (wM_len.trans wM_len.symm)) 61 rfl ?_
  refine g_aload_n C dX4_passesAll_61 rfl 62 rfl ?_
  refine g_aload_n C dX4_passesAll_62 rfl 63 rfl ?_
  refine g_get (v := .ref (b 8)) C (hiC hiA_4) 0 rfl rfl 7 (by decide) (List.mem_cons_of_mem _ wl_73) rfl rfl dX4_passesAll_63 66 rfl ?_
  obtain ⟨v7, hv7, hR⟩ := opt_b hR
  refine g_callV C (rn_V C (k_X4_passes_6 l g b v6 N_ v7 hv7) (cwV 1 C.1.2.2.2.2 (gdV wl_246 wl_243 wl_244 wl_245 wl_5) rfl rfl rfl hd_X4_passes ⟨Nat.le_of_ble_eq_true rfl, Nat.le_of_ble_eq_true rfl⟩) 0 rfl rfl _ rg_C rg_n rfl rfl (Nat.le_of_ble_eq_true rfl) ⟨Nat.zero_le _, Nat.zero_le _⟩ dX4_passesAll_66) (wM g b v7) (rg_put (wM_len.trans wM_len.symm)) (rg_len (wM_len.trans wM_len.symm)) 69 rfl ?_
  refine g_aload_n C dX4_passesAll_69 rfl 70 rfl ?_
  refine g_aload_n C dX4_passesAll_70 rfl 71 rfl ?_
  refine g_get (v := .ref (b 9)) C (hiC hiA_4) 0 rfl rfl 8 (by decide) (List.mem_cons_of_mem _ wl_74) rfl rfl dX4_passesAll_71 74 rfl ?_
  obtain ⟨v8, hv8, hR⟩ := opt_b hR
  refine g_callV C (rn_V C (k_X4_passes_7 l g b v7 N_ v8 hv8) (cwV 1 C.1.2.2.2.2 (gdV wl_246 wl_243 wl_244 wl_245 wl_5) rfl rfl rfl hd_X4_passes ⟨Nat.le_of_ble_eq_true rfl, Nat.le_of_ble_eq_true rfl⟩) 0 rfl rfl _ rg_C rg_n rfl rfl (Nat.le_of_ble_eq_true rfl) ⟨Nat.zero_le _, Nat.zero_le _⟩ dX4_passesAll_74) (wM g b v8) (rg_put (wM_len.trans wM_len.symm)) (rg_len (wM_len.trans wM_len.symm)) 77 rfl ?_
  refine g_aload_n C dX4_passesAll_77 rfl 78 rfl ?_
  refine g_aload_n C dX4_passesAll_78 rfl 79 rfl ?_
  refine g_aload_n C dX4_passesAll_79 rfl 80 rfl ?_
  refine g_get (v := .int (v8.1 0 0)) C (hiC hiA_4) 0 rfl rfl 9 (by decide) (List.mem_cons_of_mem _ wl_239) rfl rfl dX4_passesAll_80 83 rfl ?_
  obtain ⟨v9, hv9, hR⟩ := opt_b hR
  refine g_callI C (rn_V C (k_X4_passOne l g b v8 (v8.1 0 0) N_ v9 hv9) (cwV 1 C.1.2.2.2.2 (gdV wl_250 wl_247 wl_248 wl_249 wl_5) rfl rfl rfl hd_X4_passOne ⟨Nat.le_of_ble_eq_true rfl, Nat.le_of_ble_eq_true rfl⟩) 0 rfl rfl _ rg_C rg_n rfl rfl (Nat.le_of_ble_eq_true rfl) ⟨Nat.zero_le _, Nat.zero_le _⟩ dX4_passesAll_83) (wM g b v9.2) (rg_put (wM_len.trans wM_len.symm)) (rg_len (wM_len.trans wM_len.symm)) 86 rfl ?_
  refine g_put C (hiC hiA_4) tyX4 tyX4_ok nmX4 0 rfl rfl 9 (by decide) (List.mem_cons_of_mem _ wl_239) rfl rfl rfl rfl (Nat.le_of_ble_eq_true rfl) dX4_passesAll_86 (wMr g b v9.1 (v9.2.1 0 1) (v9.2.1 0 2) (v9.2.1 0 3) (v9.2.1 0 4) (v9.2.1 0 5) (v9.2.1 0 6) (v9.2.1 0 7) (v9.2.1 0 8) (v9.2.1 0 9) (v9.2.1 0 10) (v9.2.1 0 11) (v9.2.1 0 12) (v9.2.1 0 13) (v9.2.1 0 14) (v9.2.1 1) (v9.2.1 2) (v9.2.1 3) (v9.2.1 4) (v9.2.1 5) (v9.2.1 6) (v9.2.1 7) (v9.2.1 8) (v9.2.1 9) (v9.2.1 10) (v9.2.1 11) (v9.2.1 12) (v9.2.1 13) (v9.2.1 14) (v9.2.1 15) (v9.2.1 16) (v9.2.2 0) (v9.2.2 1) (v9.2.2 2)) rfl 89 rfl ?_
  refine g_aload_n C dX4_passesAll_89 rfl 90 rfl ?_
  refine g_aload_n C dX4_passesAll_90 rfl 91 rfl ?_
  refine g_aload_n C dX4_passesAll_91 rfl 92 rfl ?_
  refine g_get (v := .int (v9.2.1 0 1)) C (hiC hiA_4) 0 rfl rfl 10 (by decide) (List.mem_cons_of_mem _ wl_240) rfl rfl dX4_passesAll_92 95 rfl ?_
  obtain ⟨v10, hv10, hR⟩ := opt_b hR
  refine g_callI C (rn_V C (k_X4_passOne l g b ((kS v9.2.1 0 (upd (v9.2.1 0) 0 v9.1)), v9.2.2) (v9.2.1 0 1) N_ v10 hv10) (cwV 1 C.1.2.2.2.2 (gdV wl_250 wl_247 wl_248 wl_249 wl_5) rfl rfl rfl hd_X4_passOne ⟨Nat.le_of_ble_eq_true rfl, Nat.le_of_ble_eq_true rfl⟩) 0 rfl rfl _ rg_C rg_n rfl rfl (Nat.le_of_ble_eq_true rfl) ⟨Nat.zero_le _, Nat.zero_le _⟩ dX4_passesAll_95) (wM g b v10.2) (rg_put (wM_len.trans wMr_len.symm)) (rg_len (wM_len.trans wMr_len.symm)) 98 rfl ?_
  refine g_put C (hiC hiA_4) tyX4 tyX4_ok nmX4 0 rfl rfl 10 (by decide) (List.mem_cons_of_mem _ wl_240) rfl rfl rfl rfl (Nat.le_of_ble_eq_true rfl) dX4_passesAll_98 (wMr g b (v10.2.1 0 0) v10.1 (v10.2.1 0 2) (v10.2.1 0 3) (v10.2.1 0 4) (v10.2.1 0 5) (v10.2.1 0 6) (v10.2.1 0 7) (v10.2.1 0 8) (v10.2.1 0 9) (v10.2.1 0 10) (v10.2.1 0 11) (v10.2.1 0 12) (v10.2.1 0 13) (v10.2.1 0 14) (v10.2.1 1) (v10.2.1 2) (v10.2.1 3) (v10.2.1 4) (v10.2.1 5) (v10.2.1 6) (v10.2.1 7) (v10.2.1 8) (v10.2.1 9) (v10.2.1 10) (v10.2.1 11) (v10.2.1 12) (v10.2.1 13) (v10.2.1 14) (v10.2.1 15) (v10.2.1 16) (v10.2.2 0) (v10.2.2 1) (v10.2.2 2)) rfl 101 rfl ?_
  refine g_aload_n C dX4_passesAll_101 rfl 102 rfl ?_
  refine g_aload_n C dX4_passesAll_102 rfl 103 rfl ?_
  refine g_aload_n C dX4_passesAll_103 rfl 104 rfl ?_
  refine g_get (v := .int (v10.2.1 0 2)) C (hiC hiA_4) 0 rfl rfl 11 (by decide) (List.mem_cons_of_mem _ wl_241) rfl rfl dX4_passesAll_104 107 rfl ?_
  obtain ⟨v11, hv11, hR⟩ := opt_b hR
  refine g_callI C (rn_V C (k_X4_passOne l g b ((kS v10.2.1 0 (upd (v10.2.1 0) 1 v10.1)), v10.2.2) (v10.2.1 0 2) N_ v11 hv11) (cwV 1 C.1.2.2.2.2 (gdV wl_250 wl_247 wl_248 wl_249 wl_5) rfl rfl rfl hd_X4_passOne ⟨Nat.le_of_ble_eq_true rfl, Nat.le_of_ble_eq_true rfl⟩) 0 rfl rfl _ rg_C rg_n rfl rfl (Nat.le_of_ble_eq_true rfl) ⟨Nat.zero_le _, Nat.zero_le _⟩ dX4_passesAll_107) (wM g b v11.2) (rg_put (wM_len.trans wMr_len.symm)) (rg_len (wM_len.trans wMr_len.symm)) 110 rfl ?_
  refine g_put C (hiC hiA_4) tyX4 tyX4_ok nmX4 0 rfl rfl 11 (by decide) (List.mem_cons_of_mem _ wl_241) rfl rfl rfl rfl (Nat.le_of_ble_eq_true rfl) dX4_passesAll_110 (wMr g b (v11.2.1 0 0) (v11.2.1 0 1) v11.1 (v11.2.1 0 3) (v11.2.1 0 4) (v11.2.1 0 5) (v11.2.1 0 6) (v11.2.1 0 7) (v11.2.1 0 8) (v11.2.1 0 9) (v11.2.1 0 10) (v11.2.1 0 11) (v11.2.1 0 12) (v11.2.1 0 13) (v11.2.1 0 14) (v11.2.1 1) (v11.2.1 2) (v11.2.1 3) (v11.2.1 4) (v11.2.1 5) (v11.2.1 6) (v11.2.1 7) (v11.2.1 8) (v11.2.1 9) (v11.2.1 10) (v11.2.1 11) (v11.2.1 12) (v11.2.1 13) (v11.2.1 14) (v11.2.1 15) (v11.2.1 16) (v11.2.2 0) (v11.2.2 1) (v11.2.2 2)) rfl 113 rfl ?_
  refine g_aload_n C dX4_passesAll_113 rfl 114 rfl ?_
  refine g_aload_n C dX4_passesAll_114 rfl 115 rfl ?_
  refine g_aload_n C dX4_passesAll_115 rfl 116 rfl ?_
  refine g_get (v := .int (v11.2.1 0 3)) C (hiC hiA_4) 0 rfl rfl 12 (by decide) (List.mem_cons_of_mem _ wl_242) rfl rfl dX4_passesAll_116 119 rfl ?_
  obtain ⟨v12, hv12, hR⟩ := opt_b hR
  refine g_callI C (rn_V C (k_X4_passOne l g b ((kS v11.2.1 0 (upd (v11.2.1 0) 2 v11.1)), v11.2.2) (v11.2.1 0 3) N_ v12 hv12) (cwV 1 C.1.2.2.2.2 (gdV wl_250 wl_247 wl_248 wl_249 wl_5) rfl rfl rfl hd_X4_passOne ⟨Nat.le_of_ble_eq_true rfl, Nat.le_of_ble_eq_true rfl⟩) 0 rfl rfl _ rg_C rg_n rfl rfl (Nat.le_of_ble_eq_true rfl) ⟨Nat.zero_le _, Nat.zero_le _⟩ dX4_passesAll_119) (wM g b v12.2) (rg_put (wM_len.trans wMr_len.symm)) (rg_len (wM_len.trans wMr_len.symm)) 122 rfl ?_
  refine g_put C (hiC hiA_4) tyX4 tyX4_ok nmX4 0 rfl rfl 12 (by decide) (List.mem_cons_of_mem _ wl_242) rfl rfl rfl rfl (Nat.le_of_ble_eq_true rfl) dX4_passesAll_122 (wMr g b (v12.2.1 0 0) (v12.2.1 0 1) (v12.2.1 0 2) v12.1 (v12.2.1 0 4) (v12.2.1 0 5) (v12.2.1 0 6) (v12.2.1 0 7) (v12.2.1 0 8) (v12.2.1 0 9) (v12.2.1 0 10) (v12.2.1 0 11) (v12.2.1 0 12) (v12.2.1 0 13) (v12.2.1 0 14) (v12.2.1 1) (v12.2.1 2) (v12.2.1 3) (v12.2.1 4) (v12.2.1 5) (v12.2.1 6) (v12.2.1 7) (v12.2.1 8) (v12.2.1 9) (v12.2.1 10) (v12.2.1 11) (v12.2.1 12) (v12.2.1 13) (v12.2.1 14) (v12.2.1 15) (v12.2.1 16) (v12.2.2 0) (v12.2.2 1) (v12.2.2 2)) rfl 125 rfl ?_
  refine g_aload_n C dX4_passesAll_125 rfl 126 rfl ?_
  refine g_aload_n C dX4_passesAll_126 rfl 127 rfl ?_
  refine g_aload_n C dX4_passesAll_127 rfl 128 rfl ?_
  refine g_get (v := .int (v12.2.1 0 4)) C (hiC hiA_4) 0 rfl rfl 13 (by decide) (List.mem_cons_of_mem _ wl_85) rfl rfl dX4_passesAll_128 131 rfl ?_
  obtain ⟨v13, hv13, hR⟩ := opt_b hR
  refine g_callI C (rn_V C (k_X4_passOne l g b ((kS v12.2.1 0 (upd (v12.2.1 0) 3 v12.1)), v12.2.2) (v12.2.1 0 4) N_ v13 hv13) (cwV 1 C.1.2.2.2.2 (gdV wl_250 wl_247 wl_248 wl_249 wl_5) rfl rfl rfl hd_X4_passOne ⟨Nat.le_of_ble_eq_true rfl, Nat.le_of_ble_eq_true rfl⟩) 0 rfl rfl _ rg_C rg_n rfl rfl (Nat.le_of_ble_eq_true rfl) ⟨Nat.zero_le _, Nat.zero_le _⟩ dX4_passesAll_131) (wM g b v13.2) (rg_put (wM_len.trans wMr_len.symm)) (rg_len (wM_len.trans wMr_len.symm)) 134 rfl ?_
  refine g_put C (hiC hiA_4) tyX4 tyX4_ok nmX4 0 rfl rfl 13 (by decide) (List.mem_cons_of_mem _ wl_85) rfl rfl rfl rfl (Nat.le_of_ble_eq_true rfl) dX4_passesAll_134 (wMr g b (v13.2.1 0 0) (v13.2.1 0 1) (v13.2.1 0 2) (v13.2.1 0 3) v13.1 (v13.2.1 0 5) (v13.2.1 0 6) (v13.2.1 0 7) (v13.2.1 0 8) (v13.2.1 0 9) (v13.2.1 0 10) (v13.2.1 0 11) (v13.2.1 0 12) (v13.2.1 0 13) (v13.2.1 0 14) (v13.2.1 1) (v13.2.1 2) (v13.2.1 3) (v13.2.1 4) (v13.2.1 5) (v13.2.1 6) (v13.2.1 7) (v13.2.1 8) (v13.2.1 9) (v13.2.1 10) (v13.2.1 11) (v13.2.1 12) (v13.2.1 13) (v13.2.1 14) (v13.2.1 15) (v13.2.1 16) (v13.2.2 0) (v13.2.2 1) (v13.2.2 2)) rfl 137 rfl ?_
  obtain rfl := Option.some.inj hR
  exact g_vret C hr hlocks hA (by first | (dsimp only; done) | rfl) dX4_passesAll_137
theorem hd_X4_kitchen : yX4_kitchen.cls = RX4 ∧ yX4_kitchen.cls ≠ "java/lang/invoke/MethodHandle" ∧ yX4_kitchen.cls ≠ "java/lang/invoke/VarHandle" ∧ (parseMethodDescriptor yX4_kitchen.desc).map (fun d => d.parameters.length) = some 0 := by decide +kernel
def f_X4_kitchen_L12  (N_ : Nat) : Nat → Int32 → ((Nat → Nat → Int32) × (Nat → Nat → Int64)) → Option (Int32 × ((Nat → Nat → Int32) × (Nat → Nat → Int64)))
  | 0, _, _ => none
  | n_ + 1, x1, S =>
    if x1 = 0 then
      some (x1, S)
    else
      if (S.1 0 6) < (S.1 0 5) then
        (f_X4_statement S N_).bind fun v5 =>
        if (b2i v5.1) = 0 then
          f_X4_kitchen_L12 N_ n_ (b2i v5.1) ((kS v5.2.1 0 (upd (v5.2.1 0) 7 ((v5.2.1 0 7) + 0))), v5.2.2)
        else
          f_X4_kitchen_L12 N_ n_ (b2i v5.1) ((kS v5.2.1 0 (upd (v5.2.1 0) 7 ((v5.2.1 0 7) + 1))), v5.2.2)
      else
        if (S.1 0 7) = 0 then
          (f_X4_statement S N_).bind fun v6 =>
          if (b2i v6.1) = 0 then
            f_X4_kitchen_L12 N_ n_ (b2i v6.1) ((kS v6.2.1 0 (upd (v6.2.1 0) 7 ((v6.2.1 0 7) + 0))), v6.2.2)
          else
            f_X4_kitchen_L12 N_ n_ (b2i v6.1) ((kS v6.2.1 0 (upd (v6.2.1 0) 7 ((v6.2.1 0 7) + 1))), v6.2.2)
        else
          some (x1, S)
set_option maxRecDepth 100000 in
set_option maxHeartbeats 4000000 in
theorem k_X4_kitchen_L12 (l : Launch) (g : gE) {p : Program} {e : Env} {s : State} {m : MethodId} {args : Array Value} {below : List Frame} {meth : Method} {c : Code} {Q : State → Prop} {A : Nat → Prop} {b : Nat → Nat}  (C : Cx p s m args c g A cX4_kitchen 3 wA_X4_kitchen RX4) (N_ : Nat)  : ∀ (n_ : Nat) (x1 : Int32) (S : (Nat → Nat → Int32) × (Nat → Nat → Int64)) (rv_ : Int32 × ((Nat → Nat → Int32) × (Nat → Nat → Int64))), f_X4_kitchen_L12 N_ n_ x1 S = some rv_ → (Gm p l e (headSpec wA_X4_kitchen ({ frames := 4, cells := 0, slots := 0, locals := 89 } : Room)).room s m args below meth c Q g A 3 0 0 (wM g b rv_.2) [some (.ref (b 0)), some (.int rv_.1), none] [] 60) → Gm p l e (headSpec wA_X4_kitchen ({ frames := 4, cells := 0, slots := 0, locals := 89 } : Room)).room s m args below meth c Q g A 3 0 0 (wM g b S) [some (.ref (b 0)), some (.int x1), none] [] 12 := by
  intro n_
  induction n_ with
  | zero =>
    intro x1 S rv_ hR
    simp [f_X4_kitchen_L12] at hR
  | succ n_ ih =>
    intro x1 S rv_ hR hk
    rw [f_X4_kitchen_L12] at hR
    refine g_iload_n C dX4_kitchen_12 rfl 13 rfl ?_
    refine g_if_eq C dX4_kitchen_13 hR 60 16 (by decide) rfl (fun c_13 hR => ?_) (fun c_13 hR => ?_)
    · obtain rfl := Option.some.inj hR
      refine g_lv [some (.ref (b 0)), some (.int x1), none] (lvLe.sm (lvLe.sm (lvLe.nn lvLe.nil))) ?_
      exact hk
    · refine g_aload_n C dX4_kitchen_16 rfl 17 rfl ?_
      refine g_get (v := .int (S.1 0 6)) C (hiC hiA_4) 0 rfl rfl 19 (by decide) (List.mem_cons_of_mem _ wl_212) rfl rfl dX4_kitchen_17 20 rfl ?_
      refine g_aload_n C dX4_kitchen_20 rfl 21 rfl ?_
      refine g_get (v := .int (S.1 0 5)) C (hiC hiA_4) 0 rfl rfl 18 (by decide) (List.mem_cons_of_mem _ wl_104) rfl rfl dX4_kitchen_21 24 rfl ?_
      refine g_icmp_lt C dX4_kitchen_24 hR 34 27 (by decide) rfl (fun c_24 hR => ?_) (fun c_24 hR => ?_)
      · refine g_aload_n C dX4_kitchen_34 rfl 35 rfl ?_
        obtain ⟨v5, hv5, hR⟩ := opt_b hR
        refine g_callI C (rn_V C (k_X4_statement l g b S N_ v5 hv5) (cwV 0 C.1.2.2.2.2 (gdV wl_217 wl_214 wl_215 wl_216 wl_5) rfl rfl rfl hd_X4_statement ⟨Nat.le_of_ble_eq_true rfl, Nat.le_of_ble_eq_true rfl⟩) 0 rfl rfl _ rg_C rg_n rfl rfl (Nat.le_of_ble_eq_true rfl) ⟨Nat.zero_le _, Nat.zero_le _⟩ dX4_kitchen_35) (wM g b v5.2) (rg_put (wM_len.trans wM_len.symm)) (rg_len (wM_len.trans wM_len.symm)) 38 rfl ?_
        refine g_istore_n C dX4_kitchen_38 [_, _, _] (Nat.le_of_ble_eq_true rfl) rfl rfl 39 rfl ?_
        refine g_aload_n C dX4_kitchen_39 rfl 40 rfl ?_
        refine g_dup C dX4_kitchen_40 rfl 41 rfl ?_
        refine g_get (v := .int (v5.2.1 0 7)) C (hiC hiA_4) 0 rfl rfl 20 (by decide) (List.mem_cons_of_mem _ wl_213) rfl rfl dX4_kitchen_41 44 rfl ?_
        refine g_iload_n C dX4_kitchen_44 rfl 45 rfl ?_
        refine g_if_eq C dX4_kitchen_45 hR 52 48 (by decide) rfl (fun c_45 hR => ?_) (fun c_45 hR => ?_)
        · refine g_iconst C dX4_kitchen_52 0 ic_0 53 rfl ?_
          refine g_iadd C dX4_kitchen_53 54 rfl ?_
          refine g_put C (hiC hiA_4) tyX4 tyX4_ok nmX4 0 rfl rfl 20 (by decide) (List.mem_cons_of_mem _ wl_213) rfl rfl rfl rfl (Nat.le_of_ble_eq_true rfl) dX4_kitchen_54 (wMr g b (v5.2.1 0 0) (v5.2.1 0 1) (v5.2.1 0 2) (v5.2.1 0 3) (v5.2.1 0 4) (v5.2.1 0 5) (v5.2.1 0 6) ((v5.2.1 0 7) + 0) (v5.2.1 0 8) (v5.2.1 0 9) (v5.2.1 0 10) (v5.2.1 0 11) (v5.2.1 0 12) (v5.2.1 0 13) (v5.2.1 0 14) (v5.2.1 1) (v5.2.1 2) (v5.2.1 3) (v5.2.1 4) (v5.2.1 5) (v5.2.1 6) (v5.2.1 7) (v5.2.1 8) (v5.2.1 9) (v5.2.1 10) (v5.2.1 11) (v5.2.1 12) (v5.2.1 13) (v5.2.1 14) (v5.2.1 15) (v5.2.1 16) (v5.2.2 0) (v5.2.2 1) (v5.2.2 2)) rfl 57 rfl ?_
          refine g_goto C dX4_kitchen_57 12 (by decide) ?_
          refine g_lv [some (.ref (b 0)), some (.int (b2i v5.1)), none] (lvLe.sm (lvLe.sm (lvLe.nn lvLe.nil))) ?_
          exact ih _ _ rv_ hR hk
        · refine g_iconst C dX4_kitchen_48 1 ic_1 49 rfl ?_
          refine g_goto C dX4_kitchen_49 53 (by decide) ?_
          refine g_iadd C dX4_kitchen_53 54 rfl ?_
          refine g_put C (hiC hiA_4) tyX4 tyX4_ok nmX4 0 rfl rfl 20 (by decide) (List.mem_cons_of_mem _ wl_213) rfl rfl rfl rfl (Nat.le_of_ble_eq_true rfl) dX4_kitchen_54 (wMr g b (v5.2.1 0 0) (v5.2.1 0 1) (v5.2.1 0 2) (v5.2.1 0 3) (v5.2.1 0 4) (v5.2.1 0 5) (v5.2.1 0 6) ((v5.2.1 0 7) + 1) (v5.2.1 0 8) (v5.2.1 0 9) (v5.2.1 0 10) (v5.2.1 0 11) (v5.2.1 0 12) (v5.2.1 0 13) (v5.2.1 0 14) (v5.2.1 1) (v5.2.1 2) (v5.2.1 3) (v5.2.1 4) (v5.2.1 5) (v5.2.1 6) (v5.2.1 7) (v5.2.1 8) (v5.2.1 9) (v5.2.1 10) (v5.2.1 11) (v5.2.1 12) (v5.2.1 13) (v5.2.1 14) (v5.2.1 15) (v5.2.1 16) (v5.2.2 0) (v5.2.2 1) (v5.2.2 2)) rfl 57 rfl ?_
          refine g_goto C dX4_kitchen_57 12 (by decide) ?_
          refine g_lv [some (.ref (b 0)), some (.int (b2i v5.1)), none] (lvLe.sm (lvLe.sm (lvLe.nn lvLe.nil))) ?_
          exact ih _ _ rv_ hR hk
      · refine g_aload_n C dX4_kitchen_27 rfl 28 rfl ?_
        refine g_get (v := .int (S.1 0 7)) C (hiC hiA_4) 0 rfl rfl 20 (by decide) (List.mem_cons_of_mem _ wl_213) rfl rfl dX4_kitchen_28 31 rfl ?_
        refine g_if_ne C dX4_kitchen_31 hR 60 34 (by decide) rfl (fun c_31 hR => ?_) (fun c_31 hR => ?_)
        · obtain rfl := Option.some.inj hR
          refine g_lv [some (.ref (b 0)), some (.int x1), none] (lvLe.sm (lvLe.sm (lvLe.nn lvLe.nil))) ?_
          exact hk
        · refine g_aload_n C dX4_kitchen_34 rfl 35 rfl ?_
          obtain ⟨v6, hv6, hR⟩ := opt_b hR
          refine g_callI C (rn_V C (k_X4_statement l g b S N_ v6 hv6) (cwV 0 C.1.2.2.2.2 (gdV wl_217 wl_214 wl_215 wl_216 wl_5) rfl rfl rfl hd_X4_statement ⟨Nat.le_of_ble_eq_true rfl, Nat.le_of_ble_eq_true rfl⟩) 0 rfl rfl _ rg_C rg_n rfl rfl (Nat.le_of_ble_eq_true rfl) ⟨Nat.zero_le _, Nat.zero_le _⟩ dX4_kitchen_35) (wM g b v6.2) (rg_put (wM_len.trans wM_len.symm)) (rg_len (wM_len.trans wM_len.symm)) 38 rfl ?_
          refine g_istore_n C dX4_kitchen_38 [_, _, _] (Nat.le_of_ble_eq_true rfl) rfl rfl 39 rfl ?_
          refine g_aload_n C dX4_kitchen_39 rfl 40 rfl ?_
          refine g_dup C dX4_kitchen_40 rfl 41 rfl ?_
          refine g_get (v := .int (v6.2.1 0 7)) C (hiC hiA_4) 0 rfl rfl 20 (by decide) (List.mem_cons_of_mem _ wl_213) rfl rfl dX4_kitchen_41 44 rfl ?_
          refine g_iload_n C dX4_kitchen_44 rfl 45 rfl ?_
          refine g_if_eq C dX4_kitchen_45 hR 52 48 (by decide) rfl (fun c_45 hR => ?_) (fun c_45 hR => ?_)
          · refine g_iconst C dX4_kitchen_52 0 ic_0 53 rfl ?_
            refine g_iadd C dX4_kitchen_53 54 rfl ?_
            refine g_put C (hiC hiA_4) tyX4 tyX4_ok nmX4 0 rfl rfl 20 (by decide) (List.mem_cons_of_mem _ wl_213) rfl rfl rfl rfl (Nat.le_of_ble_eq_true rfl) dX4_kitchen_54 (wMr g b (v6.2.1 0 0) (v6.2.1 0 1) (v6.2.1 0 2) (v6.2.1 0 3) (v6.2.1 0 4) (v6.2.1 0 5) (v6.2.1 0 6) ((v6.2.1 0 7) + 0) (v6.2.1 0 8) (v6.2.1 0 9) (v6.2.1 0 10) (v6.2.1 0 11) (v6.2.1 0 12) (v6.2.1 0 13) (v6.2.1 0 14) (v6.2.1 1) (v6.2.1 2) (v6.2.1 3) (v6.2.1 4) (v6.2.1 5) (v6.2.1 6) (v6.2.1 7) (v6.2.1 8) (v6.2.1 9) (v6.2.1 10) (v6.2.1 11) (v6.2.1 12) (v6.2.1 13) (v6.2.1 14) (v6.2.1 15) (v6.2.1 16) (v6.2.2 0) (v6.2.2 1) (v6.2.2 2)) rfl 57 rfl ?_
            refine g_goto C dX4_kitchen_57 12 (by decide) ?_
            refine g_lv [some (.ref (b 0)), some (.int (b2i v6.1)), none] (lvLe.sm (lvLe.sm (lvLe.nn lvLe.nil))) ?_
            exact ih _ _ rv_ hR hk
          · refine g_iconst C dX4_kitchen_48 1 ic_1 49 rfl ?_
            refine g_goto C dX4_kitchen_49 53 (by decide) ?_
            refine g_iadd C dX4_kitchen_53 54 rfl ?_
            refine g_put C (hiC hiA_4) tyX4 tyX4_ok nmX4 0 rfl rfl 20 (by decide) (List.mem_cons_of_mem _ wl_213) rfl rfl rfl rfl (Nat.le_of_ble_eq_true rfl) dX4_kitchen_54 (wMr g b (v6.2.1 0 0) (v6.2.1 0 1) (v6.2.1 0 2) (v6.2.1 0 3) (v6.2.1 0 4) (v6.2.1 0 5) (v6.2.1 0 6) ((v6.2.1 0 7) + 1) (v6.2.1 0 8) (v6.2.1 0 9) (v6.2.1 0 10) (v6.2.1 0 11) (v6.2.1 0 12) (v6.2.1 0 13) (v6.2.1 0 14) (v6.2.1 1) (v6.2.1 2) (v6.2.1 3) (v6.2.1 4) (v6.2.1 5) (v6.2.1 6) (v6.2.1 7) (v6.2.1 8) (v6.2.1 9) (v6.2.1 10) (v6.2.1 11) (v6.2.1 12) (v6.2.1 13) (v6.2.1 14) (v6.2.1 15) (v6.2.1 16) (v6.2.2 0) (v6.2.2 1) (v6.2.2 2)) rfl 57 rfl ?_
            refine g_goto C dX4_kitchen_57 12 (by decide) ?_
            refine g_lv [some (.ref (b 0)), some (.int (b2i v6.1)), none] (lvLe.sm (lvLe.sm (lvLe.nn lvLe.nil))) ?_
            exact ih _ _ rv_ hR hk
def f_X4_kitchen_L86  (N_ : Nat) : Nat → Int32 → ((Nat → Nat → Int32) × (Nat → Nat → Int64)) → Option ((Int32 × ((Nat → Nat → Int32) × (Nat → Nat → Int64))) ⊕ (Int32 × ((Nat → Nat → Int32) × (Nat → Nat → Int64))))
  | 0, _, _ => none
  | n_ + 1, x2, S =>
    if (S.1 0 7) ≤ x2 then
      some (.inr (x2, S))
    else
      (f_X4_comes S x2 N_).bind fun v13 =>
      if (b2i v13.1) = 0 then
        (f_X4_passesAll v13.2 1 false N_).bind fun v14 =>
        if x2 < 0 ∨ 48 ≤ (Int32.toNatClampNeg x2) then none else
        some (.inl (((-2000) - ((v14.1 12) (Int32.toNatClampNeg x2))), v14))
      else
        f_X4_kitchen_L86 N_ n_ (x2 + 1) v13.2
set_option maxRecDepth 100000 in
set_option maxHeartbeats 4000000 in
theorem k_X4_kitchen_L86 (l : Launch) (g : gE) {p : Program} {e : Env} {s : State} {m : MethodId} {args : Array Value} {below : List Frame} {meth : Method} {c : Code} {Q : State → Prop} {A : Nat → Prop} {wc0 : va_W} {b : Nat → Nat}  (C : Cx p s m args c g A cX4_kitchen 3 wA_X4_kitchen RX4) (hr : meth.sig.returnType = some .int) (hlocks : meth.locks = false) (hA : va_A wc0 s.heap.size = A) (N_ : Nat) (x1 : Int32) : ∀ (n_ : Nat) (x2 : Int32) (S : (Nat → Nat → Int32) × (Nat → Nat → Int64)) (rv_ : (Int32 × ((Nat → Nat → Int32) × (Nat → Nat → Int64))) ⊕ (Int32 × ((Nat → Nat → Int32) × (Nat → Nat → Int64)))), f_X4_kitchen_L86 N_ n_ x2 S = some rv_ → (∀ v_, rv_ = .inr v_ → Gm p l e (headSpec wA_X4_kitchen ({ frames := 4, cells := 0, slots := 0, locals := 89 } : Room)).room s m args below meth c Q g A 3 0 0 (wM g b v_.2) [some (.ref (b 0)), some (.int x1), some (.int v_.1)] [] 128) → (∀ r_, rv_ = .inl r_ → Q = MQ below (qI g wc0 r_.1 (wM g b r_.2) s.heap.size) args s 0 0 A) → Gm p l e (headSpec wA_X4_kitchen ({ frames := 4, cells := 0, slots := 0, locals := 89 } : Room)).room s m args below meth c Q g A 3 0 0 (wM g b S) [some (.ref (b 0)), some (.int x1), some (.int x2)] [] 86 := by
  intro n_
  induction n_ with
  | zero =>
    intro x2 S rv_ hR
    simp [f_X4_kitchen_L86] at hR
  | succ n_ ih =>
    intro x2 S rv_ hR hk hq
    rw [f_X4_kitchen_L86] at hR
    refine g_iload_n C dX4_kitchen_86 rfl 87 rfl ?_
    refine g_aload_n C dX4_kitchen_87 rfl 88 rfl ?_
    refine g_get (v := .int (S.1 0 7)) C (hiC hiA_4) 0 rfl rfl 20 (by decide) (List.mem_cons_of_mem _ wl_213) rfl rfl dX4_kitchen_88 91 rfl ?_
    refine g_icmp_ge C dX4_kitchen_91 hR 128 94 (by decide) rfl (fun c_91 hR => ?_) (fun c_91 hR => ?_)
    · obtain rfl := Option.some.inj hR
      refine g_lv [some (.ref (b 0)), some (.int x1), some (.int x2)] (lvLe.sm (lvLe.sm (lvLe.sm lvLe.nil))) ?_
      exact hk _ rfl
    · refine g_aload_n C dX4_kitchen_94 rfl 95 rfl ?_
      refine g_iload_n C dX4_kitchen_95 rfl 96 rfl ?_
      obtain ⟨v13, hv13, hR⟩ := opt_b hR
      refine g_callI C (rn_V C (k_X4_comes l g b S x2 N_ v13 hv13) (cwV 1 C.1.2.2.2.2 (gdV wl_254 wl_251 wl_252 wl_253 wl_5) rfl rfl rfl hd_X4_comes ⟨Nat.le_of_ble_eq_true rfl, Nat.le_of_ble_eq_true rfl⟩) 0 rfl rfl _ rg_C rg_n rfl rfl (Nat.le_of_ble_eq_true rfl) ⟨Nat.zero_le _, Nat.zero_le _⟩ dX4_kitchen_96) (wM g b v13.2) (rg_put (wM_len.trans wM_len.symm)) (rg_len (wM_len.trans wM_len.symm)) 99 rfl ?_
      refine g_if_eq C dX4_kitchen_99 hR 105 102 (by decide) rfl (fun c_99 hR => ?_) (fun c_99 hR => ?_)
      · refine g_aload_n C dX4_kitchen_105 rfl 106 rfl ?_
        refine g_iconst C dX4_kitchen_106 1 ic_1 107 rfl ?_
        refine g_iconst C dX4_kitchen_107 0 ic_0 108 rfl ?_
        obtain ⟨v14, hv14, hR⟩ := opt_b hR
        refine g_callV C (rn_V C (k_X4_passesAll l g b v13.2 1 false N_ v14 hv14) (cwV 2 C.1.2.2.2.2 (gdV wl_236 wl_233 wl_234 wl_235 wl_5) rfl rfl rfl hd_X4_passesAll ⟨Nat.le_of_ble_eq_true rfl, Nat.le_of_ble_eq_true rfl⟩) 0 rfl rfl _ rg_C rg_n rfl rfl (Nat.le_of_ble_eq_true rfl) ⟨Nat.zero_le _, Nat.zero_le _⟩ dX4_kitchen_108) (wM g b v14) (rg_put (wM_len.trans wM_len.symm)) (rg_len (wM_len.trans wM_len.symm)) 111 rfl ?_
        refine g_sipush C dX4_kitchen_111 (-2000) sp_m2000 114 rfl ?_
        refine g_aload_n C dX4_kitchen_114 rfl 115 rfl ?_
        refine g_get (v := .ref (b 12)) C (hiC hiA_4) 0 rfl rfl 16 (by decide) (List.mem_cons_of_mem _ wl_77) rfl rfl dX4_kitchen_115 118 rfl ?_
        refine g_iload_n C dX4_kitchen_118 rfl 119 rfl ?_
        obtain ⟨h_119, hR⟩ := opt_n hR
        refine g_iald (f := (v14.1 12)) C 12 rfl h_119 dX4_kitchen_119 120 rfl ?_
        refine g_isub C dX4_kitchen_120 121 rfl ?_
        obtain rfl := Option.some.inj hR
        rw [hq _ rfl]
        exact g_iret C hr hlocks hA (by first | (dsimp only; done) | rfl) (by first | (dsimp only; done) | rfl) dX4_kitchen_121
      · refine g_goto C dX4_kitchen_102 122 (by decide) ?_
        refine g_iinc C dX4_kitchen_122 rfl 1 ic_1 [_, _, _] (Nat.le_of_ble_eq_true rfl) rfl rfl 125 rfl ?_
        refine g_goto C dX4_kitchen_125 86 (by decide) ?_
        refine g_lv [some (.ref (b 0)), some (.int x1), some (.int (x2 + 1))] (lvLe.sm (lvLe.sm (lvLe.sm lvLe.nil))) ?_
        exact ih _ _ rv_ hR hk hq
def f_X4_kitchen (S : (Nat → Nat → Int32) × (Nat → Nat → Int64)) (N_ : Nat) : Option (Int32 × ((Nat → Nat → Int32) × (Nat → Nat → Int64))) :=
  (f_X4_kitchen_L12 N_ N_ 1 ((kS S.1 0 (upd (upd (S.1 0) 6 0) 7 0)), S.2)).bind fun v7 =>
  if v7.1 = 0 then
    some (((-1000) - (v7.2.1 0 6)), ((kS v7.2.1 0 (upd (v7.2.1 0) 5 0)), v7.2.2))
  else
    (f_X4_passesAll ((kS v7.2.1 0 (upd (v7.2.1 0) 5 0)), v7.2.2) 1 true N_).bind fun v8 =>
    (f_X4_kitchen_L86 N_ N_ 0 v8).bind fun v15 =>
      match v15 with
      | .inl r => some r
      | .inr v16 =>
        some ((v16.2.1 0 7), v16.2)
set_option maxRecDepth 100000 in
set_option maxHeartbeats 4000000 in
theorem k_X4_kitchen (l : Launch) (g : gE) (b : Nat → Nat) (S : (Nat → Nat → Int32) × (Nat → Nat → Int64)) (N_ : Nat) (R_ : Int32 × ((Nat → Nat → Int32) × (Nat → Nat → Int64))) (hR : f_X4_kitchen S N_ = some R_) : FnI l g yX4_kitchen wA_X4_kitchen { frames := 4, cells := 0, slots := 0, locals := 89 } [.ref (b 0)] (wM g b S) R_.1 (wM g b R_.2) := by
  refine fEntry (As := [.ref (b 0)]) (maxL := 3) (ret := (some .int)) (by decide) rfl [some (.ref (b 0)), none, none] (Nat.le_of_ble_eq_true rfl) (lvInB.to (lvInB.sm (lvInB.nn (lvInB.nn lvInB.nil)))) ?_
  intro p e s m below meth c A C hr hlocks hname hA
  have C : Cx p s m _ c g A cX4_kitchen 3 wA_X4_kitchen RX4 := C
  rw [f_X4_kitchen] at hR
  refine g_aload_n C dX4_kitchen_0 rfl 1 rfl ?_
  refine g_iconst C dX4_kitchen_1 0 ic_0 2 rfl ?_
  refine g_put C (hiC hiA_4) tyX4 tyX4_ok nmX4 0 rfl rfl 19 (by decide) (List.mem_cons_of_mem _ wl_212) rfl rfl rfl rfl (Nat.le_of_ble_eq_true rfl) dX4_kitchen_2 (wMr g b (S.1 0 0) (S.1 0 1) (S.1 0 2) (S.1 0 3) (S.1 0 4) (S.1 0 5) 0 (S.1 0 7) (S.1 0 8) (S.1 0 9) (S.1 0 10) (S.1 0 11) (S.1 0 12) (S.1 0 13) (S.1 0 14) (S.1 1) (S.1 2) (S.1 3) (S.1 4) (S.1 5) (S.1 6) (S.1 7) (S.1 8) (S.1 9) (S.1 10) (S.1 11) (S.1 12) (S.1 13) (S.1 14) (S.1 15) (S.1 16) (S.2 0) (S.2 1) (S.2 2)) rfl 5 rfl ?_
  refine g_aload_n C dX4_kitchen_5 rfl 6 rfl ?_
  refine g_iconst C dX4_kitchen_6 0 ic_0 7 rfl ?_
  refine g_put C (hiC hiA_4) tyX4 tyX4_ok nmX4 0 rfl rfl 20 (by decide) (List.mem_cons_of_mem _ wl_213) rfl rfl rfl rfl (Nat.le_of_ble_eq_true rfl) dX4_kitchen_7 (wMr g b (S.1 0 0) (S.1 0 1) (S.1 0 2) (S.1 0 3) (S.1 0 4) (S.1 0 5) 0 0 (S.1 0 8) (S.1 0 9) (S.1 0 10) (S.1 0 11) (S.1 0 12) (S.1 0 13) (S.1 0 14) (S.1 1) (S.1 2) (S.1 3) (S.1 4) (S.1 5) (S.1 6) (S.1 7) (S.1 8) (S.1 9) (S.1 10) (S.1 11) (S.1 12) (S.1 13) (S.1 14) (S.1 15) (S.1 16) (S.2 0) (S.2 1) (S.2 2)) rfl 10 rfl ?_
  refine g_iconst C dX4_kitchen_10 1 ic_1 11 rfl ?_
  refine g_istore_n C dX4_kitchen_11 [_, _, _] (Nat.le_of_ble_eq_true rfl) rfl rfl 12 rfl ?_
  refine g_lv [some (.ref (b 0)), some (.int 1), none] (lvLe.sm (lvLe.sm (lvLe.nn lvLe.nil))) ?_
  obtain ⟨v7, hv7, hR⟩ := opt_b hR
  refine k_X4_kitchen_L12 l g C N_  N_ 1 ((kS S.1 0 (upd (upd (S.1 0) 6 0) 7 0)), S.2) _ hv7 ?_
  refine g_aload_n C dX4_kitchen_60 rfl 61 rfl ?_
  refine g_iconst C dX4_kitchen_61 0 ic_0 62 rfl ?_
  refine g_put C (hiC hiA_4) tyX4 tyX4_ok nmX4 0 rfl rfl 18 (by decide) (List.mem_cons_of_mem _ wl_104) rfl rfl rfl rfl (Nat.le_of_ble_eq_true rfl) dX4_kitchen_62 (wMr g b (v7.2.1 0 0) (v7.2.1 0 1) (v7.2.1 0 2) (v7.2.1 0 3) (v7.2.1 0 4) 0 (v7.2.1 0 6) (v7.2.1 0 7) (v7.2.1 0 8) (v7.2.1 0 9) (v7.2.1 0 10) (v7.2.1 0 11) (v7.2.1 0 12) (v7.2.1 0 13) (v7.2.1 0 14) (v7.2.1 1) (v7.2.1 2) (v7.2.1 3) (v7.2.1 4) (v7.2.1 5) (v7.2.1 6) (v7.2.1 7) (v7.2.1 8) (v7.2.1 9) (v7.2.1 10) (v7.2.1 11) (v7.2.1 12) (v7.2.1 13) (v7.2.1 14) (v7.2.1 15) (v7.2.1 16) (v7.2.2 0) (v7.2.2 1) (v7.2.2 2)) rfl 65 rfl ?_
  refine g_iload_n C dX4_kitchen_65 rfl 66 rfl ?_
  refine g_if_ne C dX4_kitchen_66 hR 78 69 (by decide) rfl (fun c_66 hR => ?_) (fun c_66 hR => ?_)
  · refine g_aload_n C dX4_kitchen_78 rfl 79 rfl ?_
    refine g_iconst C dX4_kitchen_79 1 ic_1 80 rfl ?_
    refine g_iconst C dX4_kitchen_80 1 ic_1 81 rfl ?_
    obtain ⟨v8, hv8, hR⟩ := opt_b hR
    refine g_callV C (rn_V C (k_X4_passesAll l g b ((kS v7.2.1 0 (upd (v7.2.1 0) 5 0)), v7.2.2) 1 true N_ v8 hv8) (cwV 2 C.1.2.2.2.2 (gdV wl_236 wl_233 wl_234 wl_235 wl_5) rfl rfl rfl hd_X4_passesAll ⟨Nat.le_of_ble_eq_true rfl, Nat.le_of_ble_eq_true rfl⟩) 0 rfl rfl _ rg_C rg_n rfl rfl (Nat.le_of_ble_eq_true rfl) ⟨Nat.zero_le _, Nat.zero_le _⟩ dX4_kitchen_81) (wM g b v8) (rg_put (wM_len.trans wMr_len.symm)) (rg_len (wM_len.trans wMr_len.symm)) 84 rfl ?_
    refine g_iconst C dX4_kitchen_84 0 ic_0 85 rfl ?_
    refine g_istore_n C dX4_kitchen_85 [_, _, _] (Nat.le_of_ble_eq_true rfl) rfl rfl 86 rfl ?_
    refine g_lv [some (.ref (b 0)), some (.int v7.1), some (.int 0)] (lvLe.sm (lvLe.sm (lvLe.sm lvLe.nil))) ?_
    obtain ⟨v15, hv15, hR⟩ := opt_b hR
    rcases v15 with r_ | v16
    · refine k_X4_kitchen_L86 l g C hr hlocks hA N_ v7.1 N_ 0 v8 _ hv15 (fun _ h => nomatch h) (fun r h => ?_)
      cases h
      obtain rfl := Option.some.inj hR
      rfl
    · refine k_X4_kitchen_L86 l g C hr hlocks hA N_ v7.1 N_ 0 v8 _ hv15 (fun _ h => ?_) (fun _ h => nomatch h)
      cases h
      refine g_aload_n C dX4_kitchen_128 rfl 129 rfl ?_
      refine g_get (v := .int (v16.2.1 0 7)) C (hiC hiA_4) 0 rfl rfl 20 (by decide) (List.mem_cons_of_mem _ wl_213) rfl rfl dX4_kitchen_129 132 rfl ?_
      obtain rfl := Option.some.inj hR
      exact g_iret C hr hlocks hA (by first | (dsimp only; done) | rfl) (by first | (dsimp only; done) | rfl) dX4_kitchen_132
  · refine g_sipush C dX4_kitchen_69 (-1000) sp_m1000 72 rfl ?_
    refine g_aload_n C dX4_kitchen_72 rfl 73 rfl ?_
    refine g_get (v := .int (v7.2.1 0 6)) C (hiC hiA_4) 0 rfl rfl 19 (by decide) (List.mem_cons_of_mem _ wl_212) rfl rfl dX4_kitchen_73 76 rfl ?_
    refine g_isub C dX4_kitchen_76 77 rfl ?_
    obtain rfl := Option.some.inj hR
    exact g_iret C hr hlocks hA (by first | (dsimp only; done) | rfl) (by first | (dsimp only; done) | rfl) dX4_kitchen_77
theorem hd_X4_image : yX4_image.cls = RX4 ∧ yX4_image.cls ≠ "java/lang/invoke/MethodHandle" ∧ yX4_image.cls ≠ "java/lang/invoke/VarHandle" ∧ (parseMethodDescriptor yX4_image.desc).map (fun d => d.parameters.length) = some 0 := by decide +kernel
def f_X4_image (S : (Nat → Nat → Int32) × (Nat → Nat → Int64)) (N_ : Nat) : Option (Int32 × ((Nat → Nat → Int32) × (Nat → Nat → Int64))) :=
  (f_X4_passesAll ((kS S.1 0 (upd (S.1 0) 8 1)), S.2) 0 true N_).bind fun v1 =>
  some ((v1.1 0 0), v1)
set_option maxRecDepth 100000 in
set_option maxHeartbeats 4000000 in
theorem k_X4_image (l : Launch) (g : gE) (b : Nat → Nat) (S : (Nat → Nat → Int32) × (Nat → Nat → Int64)) (N_ : Nat) (R_ : Int32 × ((Nat → Nat → Int32) × (Nat → Nat → Int64))) (hR : f_X4_image S N_ = some R_) : FnI l g yX4_image wA_X4_image { frames := 2, cells := 0, slots := 0, locals := 44 } [.ref (b 0)] (wM g b S) R_.1 (wM g b R_.2) := by
  refine fEntry (As := [.ref (b 0)]) (maxL := 1) (ret := (some .int)) (by decide) rfl [some (.ref (b 0))] (Nat.le_of_ble_eq_true rfl) (lvInB.to (lvInB.sm lvInB.nil)) ?_
  intro p e s m below meth c A C hr hlocks hname hA
  have C : Cx p s m _ c g A cX4_image 1 wA_X4_image RX4 := C
  rw [f_X4_image] at hR
  refine g_aload_n C dX4_image_0 rfl 1 rfl ?_
  refine g_iconst C dX4_image_1 1 ic_1 2 rfl ?_
  refine g_put C (hiC hiA_4) tyX4 tyX4_ok nmX4 0 rfl rfl 22 (by decide) (List.mem_cons_of_mem _ wl_957) rfl rfl rfl rfl (Nat.le_of_ble_eq_true rfl) dX4_image_2 (wMr g b (S.1 0 0) (S.1 0 1) (S.1 0 2) (S.1 0 3) (S.1 0 4) (S.1 0 5) (S.1 0 6) (S.1 0 7) 1 (S.1 0 9) (S.1 0 10) (S.1 0 11) (S.1 0 12) (S.1 0 13) (S.1 0 14) (S.1 1) (S.1 2) (S.1 3) (S.1 4) (S.1 5) (S.1 6) (S.1 7) (S.1 8) (S.1 9) (S.1 10) (S.1 11) (S.1 12) (S.1 13) (S.1 14) (S.1 15) (S.1 16) (S.2 0) (S.2 1) (S.2 2)) rfl 5 rfl ?_
  refine g_aload_n C dX4_image_5 rfl 6 rfl ?_
  refine g_iconst C dX4_image_6 0 ic_0 7 rfl ?_
  refine g_iconst C dX4_image_7 1 ic_1 8 rfl ?_
  obtain ⟨v1, hv1, hR⟩ := opt_b hR
  refine g_callV C (rn_V C (k_X4_passesAll l g b ((kS S.1 0 (upd (S.1 0) 8 1)), S.2) 0 true N_ v1 hv1) (cwV 2 C.1.2.2.2.2 (gdV wl_236 wl_233 wl_234 wl_235 wl_5) rfl rfl rfl hd_X4_passesAll ⟨Nat.le_of_ble_eq_true rfl, Nat.le_of_ble_eq_true rfl⟩) 0 rfl rfl _ rg_C rg_n rfl rfl (Nat.le_of_ble_eq_true rfl) ⟨Nat.zero_le _, Nat.zero_le _⟩ dX4_image_8) (wM g b v1) (rg_put (wM_len.trans wMr_len.symm)) (rg_len (wM_len.trans wMr_len.symm)) 11 rfl ?_
  refine g_aload_n C dX4_image_11 rfl 12 rfl ?_
  refine g_get (v := .int (v1.1 0 0)) C (hiC hiA_4) 0 rfl rfl 9 (by decide) (List.mem_cons_of_mem _ wl_239) rfl rfl dX4_image_12 15 rfl ?_
  obtain rfl := Option.some.inj hR
  exact g_iret C hr hlocks hA (by first | (dsimp only; done) | rfl) (by first | (dsimp only; done) | rfl) dX4_image_15
theorem hd_X4_restore : yX4_restore.cls = RX4 ∧ yX4_restore.cls ≠ "java/lang/invoke/MethodHandle" ∧ yX4_restore.cls ≠ "java/lang/invoke/VarHandle" ∧ (parseMethodDescriptor yX4_restore.desc).map (fun d => d.parameters.length) = some 0 := by decide +kernel
def f_X4_restore (S : (Nat → Nat → Int32) × (Nat → Nat → Int64)) (N_ : Nat) : Option (Int32 × ((Nat → Nat → Int32) × (Nat → Nat → Int64))) :=
  if (S.1 0 8) = 0 then
    (f_X4_no S (-3) N_).bind fun v2 =>
    some (v2.1, v2.2)
  else
    (f_X4_passesAll S 0 false N_).bind fun v1 =>
    some ((v1.1 0 0), v1)
set_option maxRecDepth 100000 in
set_option maxHeartbeats 4000000 in
theorem k_X4_restore (l : Launch) (g : gE) (b : Nat → Nat) (S : (Nat → Nat → Int32) × (Nat → Nat → Int64)) (N_ : Nat) (R_ : Int32 × ((Nat → Nat → Int32) × (Nat → Nat → Int64))) (hR : f_X4_restore S N_ = some R_) : FnI l g yX4_restore wA_X4_restore { frames := 2, cells := 0, slots := 0, locals := 44 } [.ref (b 0)] (wM g b S) R_.1 (wM g b R_.2) := by
  refine fEntry (As := [.ref (b 0)]) (maxL := 1) (ret := (some .int)) (by decide) rfl [some (.ref (b 0))] (Nat.le_of_ble_eq_true rfl) (lvInB.to (lvInB.sm lvInB.nil)) ?_
  intro p e s m below meth c A C hr hlocks hname hA
  have C : Cx p s m _ c g A cX4_restore 1 wA_X4_restore RX4 := C
  rw [f_X4_restore] at hR
  refine g_aload_n C dX4_restore_0 rfl 1 rfl ?_
  refine g_get (v := .int (S.1 0 8)) C (hiC hiA_4) 0 rfl rfl 22 (by decide) (List.mem_cons_of_mem _ wl_957) rfl rfl dX4_restore_1 4 rfl ?_
  refine g_if_ne C dX4_restore_4 hR 14 7 (by decide) rfl (fun c_4 hR => ?_) (fun c_4 hR => ?_)
  · refine g_aload_n C dX4_restore_14 rfl 15 rfl ?_
    refine g_iconst C dX4_restore_15 0 ic_0 16 rfl ?_
    refine g_iconst C dX4_restore_16 0 ic_0 17 rfl ?_
    obtain ⟨v1, hv1, hR⟩ := opt_b hR
    refine g_callV C (rn_V C (k_X4_passesAll l g b S 0 false N_ v1 hv1) (cwV 2 C.1.2.2.2.2 (gdV wl_236 wl_233 wl_234 wl_235 wl_5) rfl rfl rfl hd_X4_passesAll ⟨Nat.le_of_ble_eq_true rfl, Nat.le_of_ble_eq_true rfl⟩) 0 rfl rfl _ rg_C rg_n rfl rfl (Nat.le_of_ble_eq_true rfl) ⟨Nat.zero_le _, Nat.zero_le _⟩ dX4_restore_17) (wM g b v1) (rg_put (wM_len.trans wM_len.symm)) (rg_len (wM_len.trans wM_len.symm)) 20 rfl ?_
    refine g_aload_n C dX4_restore_20 rfl 21 rfl ?_
    refine g_get (v := .int (v1.1 0 0)) C (hiC hiA_4) 0 rfl rfl 9 (by decide) (List.mem_cons_of_mem _ wl_239) rfl rfl dX4_restore_21 24 rfl ?_
    obtain rfl := Option.some.inj hR
    exact g_iret C hr hlocks hA (by first | (dsimp only; done) | rfl) (by first | (dsimp only; done) | rfl) dX4_restore_24
  · refine g_aload_n C dX4_restore_7 rfl 8 rfl ?_
    refine g_bipush C dX4_restore_8 (-3) bp_m3 10 rfl ?_
    obtain ⟨v2, hv2, hR⟩ := opt_b hR
    refine g_callI C (rn_V C (k_X4_no l g b S (-3) N_ v2 hv2) (cwV 1 C.1.2.2.2.2 (gdV wl_111 wl_108 wl_109 wl_110 wl_5) rfl rfl rfl hd_X4_no ⟨Nat.le_of_ble_eq_true rfl, Nat.le_of_ble_eq_true rfl⟩) 0 rfl rfl _ rg_C rg_n rfl rfl (Nat.le_of_ble_eq_true rfl) ⟨Nat.zero_le _, Nat.zero_le _⟩ dX4_restore_10) (wM g b v2.2) (rg_put (wM_len.trans wM_len.symm)) (rg_len (wM_len.trans wM_len.symm)) 13 rfl ?_
    obtain rfl := Option.some.inj hR
    exact g_iret C hr hlocks hA (by first | (dsimp only; done) | rfl) (by first | (dsimp only; done) | rfl) dX4_restore_13
theorem hd_X4_jug : yX4_jug.cls = RX4 ∧ yX4_jug.cls ≠ "java/lang/invoke/MethodHandle" ∧ yX4_jug.cls ≠ "java/lang/invoke/VarHandle" ∧ (parseMethodDescriptor yX4_jug.desc).map (fun d => d.parameters.length) = some 2 := by decide +kernel
def f_X4_jug (S : (Nat → Nat → Int32) × (Nat → Nat → Int64)) (p0 : Int32) (p1 : Int32) (N_ : Nat) : Option (Int32 × ((Nat → Nat → Int32) × (Nat → Nat → Int64))) :=
  if (b2i (f_X4_isJug S p0)) = 0 then
    (f_X4_no S (-1) N_).bind fun v4 =>
    some (v4.1, v4.2)
  else
    if p1 = 0 then
      if p0 < 0 ∨ 5 ≤ (Int32.toNatClampNeg p0) then none else
      some (((S.1 2) (Int32.toNatClampNeg p0)), S)
    else
      if p1 = 1 then
        if p0 < 0 ∨ 5 ≤ (Int32.toNatClampNeg p0) then none else
        some (((S.1 3) (Int32.toNatClampNeg p0)), S)
      else
        if p1 = 2 then
          if p0 < 0 ∨ 5 ≤ (Int32.toNatClampNeg p0) then none else
          some (((S.1 4) (Int32.toNatClampNeg p0)), S)
        else
          if p1 = 3 then
            if p0 < 0 ∨ 5 ≤ (Int32.toNatClampNeg p0) then none else
            some (((S.1 5) (Int32.toNatClampNeg p0)), S)
          else
            if p1 = 4 then
              (f_X4_truly S p0 N_).bind fun v1 =>
              some (v1, S)
            else
              if p1 = 5 then
                if p0 < 0 ∨ 5 ≤ (Int32.toNatClampNeg p0) then none else
                some ((f_X4_coldOf ((S.1 2) (Int32.toNatClampNeg p0))), S)
              else
                if p1 = 6 then
                  (f_X4_warmOf S p0 N_).bind fun v2 =>
                  some (v2, S)
                else
                  (f_X4_no S (-2) N_).bind fun v3 =>
                  some (v3.1, v3.2)
set_option maxRecDepth 100000 in
set_option maxHeartbeats 4000000 in
theorem k_X4_jug (l : Launch) (g : gE) (b : Nat → Nat) (S : (Nat → Nat → Int32) × (Nat → Nat → Int64)) (p0 : Int32) (p1 : Int32) (N_ : Nat) (R_ : Int32 × ((Nat → Nat → Int32) × (Nat → Nat → Int64))) (hR : f_X4_jug S p0 p1 N_ = some R_) : FnI l g yX4_jug wA_X4_jug { frames := 2, cells := 0, slots := 0, locals := 41 } [.ref (b 0), .int p0, .int p1] (wM g b S) R_.1 (wM g b R_.2) := by
  refine fEntry (As := [.ref (b 0), .int p0, .int p1]) (maxL := 3) (ret := (some .int)) (by decide) rfl [some (.ref (b 0)), some (.int p0), some (.int p1)] (Nat.le_of_ble_eq_true rfl) (lvInB.to (lvInB.sm (lvInB.sm (lvInB.sm lvInB.nil)))) ?_
  intro p e s m below meth c A C hr hlocks hname hA
  have C : Cx p s m _ c g A cX4_jug 3 wA_X4_jug RX4 := C
  rw [f_X4_jug] at hR
  refine g_aload_n C dX4_jug_0 rfl 1 rfl ?_
  refine g_iload_n C dX4_jug_1 rfl 2 rfl ?_
  refine g_callIR C (rn_V C (k_X4_isJug l g b S p0) (cwV 1 C.1.2.2.2.2 (gdV wl_276 wl_273 wl_274 wl_275 wl_5) rfl rfl rfl hd_X4_isJug ⟨Nat.le_of_ble_eq_true rfl, Nat.le_of_ble_eq_true rfl⟩) 0 rfl rfl _ rg_C rg_n rfl rfl (Nat.le_of_ble_eq_true rfl) ⟨Nat.zero_le _, Nat.zero_le _⟩ dX4_jug_2) 5 rfl ?_
  refine g_if_ne C dX4_jug_5 hR 14 8 (by decide) rfl (fun c_5 hR => ?_) (fun c_5 hR => ?_)
  · refine g_iload_n C dX4_jug_14 rfl 15 rfl ?_
    rcases Decidable.em (p1 = 0) with c_15_0 | c_15_0
    · have hR := (if_pos c_15_0).symm.trans hR
      refine g_tableIn C dX4_jug_15 0 c_15_0 (41) 56 (by decide) ?_
      refine g_aload_n C dX4_jug_56 rfl 57 rfl ?_
      refine g_get (v := .ref (b 2)) C (hiC hiA_4) 0 rfl rfl 1 (by decide) (List.mem_cons_of_mem _ wl_67) rfl rfl dX4_jug_57 60 rfl ?_
      refine g_iload_n C dX4_jug_60 rfl 61 rfl ?_
      obtain ⟨h_61, hR⟩ := opt_n hR
      refine g_iald (f := (S.1 2)) C 2 rfl h_61 dX4_jug_61 62 rfl ?_
      obtain rfl := Option.some.inj hR
      exact g_iret C hr hlocks hA (by first | (dsimp only; done) | rfl) (by first | (dsimp only; done) | rfl) dX4_jug_62
    · have hR := (if_neg c_15_0).symm.trans hR
      rcases Decidable.em (p1 = 1) with c_15_1 | c_15_1
      · have hR := (if_pos c_15_1).symm.trans hR
        refine g_tableIn C dX4_jug_15 1 c_15_1 (48) 63 (by decide) ?_
        refine g_aload_n C dX4_jug_63 rfl 64 rfl ?_
        refine g_get (v := .ref (b 3)) C (hiC hiA_4) 0 rfl rfl 2 (by decide) (List.mem_cons_of_mem _ wl_68) rfl rfl dX4_jug_64 67 rfl ?_
        refine g_iload_n C dX4_jug_67 rfl 68 rfl ?_
        obtain ⟨h_68, hR⟩ := opt_n hR
        refine g_iald (f := (S.1 3)) C 3 rfl h_68 dX4_jug_68 69 rfl ?_
        obtain rfl := Option.some.inj hR
        exact g_iret C hr hlocks hA (by first | (dsimp only; done) | rfl) (by first | (dsimp only; done) | rfl) dX4_jug_69
      · have hR := (if_neg c_15_1).symm.trans hR
        rcases Decidable.em (p1 = 2) with c_15_2 | c_15_2
        · have hR := (if_pos c_15_2).symm.trans hR
          refine g_tableIn C dX4_jug_15 2 c_15_2 (55) 70 (by decide) ?_
          refine g_aload_n C dX4_jug_70 rfl 71 rfl ?_
          refine g_get (v := .ref (b 4)) C (hiC hiA_4) 0 rfl rfl 3 (by decide) (List.mem_cons_of_mem _ wl_69) rfl rfl dX4_jug_71 74 rfl ?_
          refine g_iload_n C dX4_jug_74 rfl 75 rfl ?_
          obtain ⟨h_75, hR⟩ := opt_n hR
          refine g_iald (f := (S.1 4)) C 4 rfl h_75 dX4_jug_75 76 rfl ?_
          obtain rfl := Option.some.inj hR
          exact g_iret C hr hlocks hA (by first | (dsimp only; done) | rfl) (by first | (dsimp only; done) | rfl) dX4_jug_76
        · have hR := (if_neg c_15_2).symm.trans hR
          rcases Decidable.em (p1 = 3) with c_15_3 | c_15_3
          · have hR := (if_pos c_15_3).symm.trans hR
            refine g_tableIn C dX4_jug_15 3 c_15_3 (62) 77 (by decide) ?_
            refine g_aload_n C dX4_jug_77 rfl 78 rfl ?_
            refine g_get (v := .ref (b 5)) C (hiC hiA_4) 0 rfl rfl 4 (by decide) (List.mem_cons_of_mem _ wl_70) rfl rfl dX4_jug_78 81 rfl ?_
            refine g_iload_n C dX4_jug_81 rfl 82 rfl ?_
            obtain ⟨h_82, hR⟩ := opt_n hR
            refine g_iald (f := (S.1 5)) C 5 rfl h_82 dX4_jug_82 83 rfl ?_
            obtain rfl := Option.some.inj hR
            exact g_iret C hr hlocks hA (by first | (dsimp only; done) | rfl) (by first | (dsimp only; done) | rfl) dX4_jug_83
          · have hR := (if_neg c_15_3).symm.trans hR
            rcases Decidable.em (p1 = 4) with c_15_4 | c_15_4
            · have hR := (if_pos c_15_4).symm.trans hR
              refine g_tableIn C dX4_jug_15 4 c_15_4 (69) 84 (by decide) ?_
              refine g_aload_n C dX4_jug_84 rfl 85 rfl ?_
              refine g_iload_n C dX4_jug_85 rfl 86 rfl ?_
              obtain ⟨v1, hv1, hR⟩ := opt_b hR
              refine g_callIR C (rn_V C (k_X4_truly l g b S p0 N_ v1 hv1) (cwV 1 C.1.2.2.2.2 (gdV wl_311 wl_308 wl_309 wl_310 wl_5) rfl rfl rfl hd_X4_truly ⟨Nat.le_of_ble_eq_true rfl, Nat.le_of_ble_eq_true rfl⟩) 0 rfl rfl _ rg_C rg_n rfl rfl (Nat.le_of_ble_eq_true rfl) ⟨Nat.zero_le _, Nat.zero_le _⟩ dX4_jug_86) 89 rfl ?_
              obtain rfl := Option.some.inj hR
              exact g_iret C hr hlocks hA (by first | (dsimp only; done) | rfl) (by first | (dsimp only; done) | rfl) dX4_jug_89
            · have hR := (if_neg c_15_4).symm.trans hR
              rcases Decidable.em (p1 = 5) with c_15_5 | c_15_5
              · have hR := (if_pos c_15_5).symm.trans hR
                refine g_tableIn C dX4_jug_15 5 c_15_5 (75) 90 (by decide) ?_
                refine g_aload_n C dX4_jug_90 rfl 91 rfl ?_
                refine g_get (v := .ref (b 2)) C (hiC hiA_4) 0 rfl rfl 1 (by decide) (List.mem_cons_of_mem _ wl_67) rfl rfl dX4_jug_91 94 rfl ?_
                refine g_iload_n C dX4_jug_94 rfl 95 rfl ?_
                obtain ⟨h_95, hR⟩ := opt_n hR
                refine g_iald (f := (S.1 2)) C 2 rfl h_95 dX4_jug_95 96 rfl ?_
                refine g_callIR C (rn_S C (k_X4_coldOf l g ((S.1 2) (Int32.toNatClampNeg p0))) (va_cwS 1 C.1.2.2.2.2 (gdS wl_265 wl_263 wl_264 wl_5) rfl rfl rfl hd_X4_coldOf.2 ⟨Nat.le_of_ble_eq_true rfl, Nat.le_of_ble_eq_true rfl⟩) [] rfl rfl rfl rfl (Nat.le_of_ble_eq_true rfl) ⟨Nat.zero_le _, Nat.zero_le _⟩ dX4_jug_96) 99 rfl ?_
                obtain rfl := Option.some.inj hR
                exact g_iret C hr hlocks hA (by first | (dsimp only; done) | rfl) (by first | (dsimp only; done) | rfl) dX4_jug_99
              · have hR := (if_neg c_15_5).symm.trans hR
                rcases Decidable.em (p1 = 6) with c_15_6 | c_15_6
                · have hR := (if_pos c_15_6).symm.trans hR
                  refine g_tableIn C dX4_jug_15 6 c_15_6 (85) 100 (by decide) ?_
                  refine g_aload_n C dX4_jug_100 rfl 101 rfl ?_
                  refine g_iload_n C dX4_jug_101 rfl 102 rfl ?_
                  obtain ⟨v2, hv2, hR⟩ := opt_b hR
                  refine g_callIR C (rn_V C (k_X4_warmOf l g b S p0 N_ v2 hv2) (cwV 1 C.1.2.2.2.2 (gdV wl_280 wl_277 wl_278 wl_279 wl_5) rfl rfl rfl hd_X4_warmOf ⟨Nat.le_of_ble_eq_true rfl, Nat.le_of_ble_eq_true rfl⟩) 0 rfl rfl _ rg_C rg_n rfl rfl (Nat.le_of_ble_eq_true rfl) ⟨Nat.zero_le _, Nat.zero_le _⟩ dX4_jug_102) 105 rfl ?_
                  obtain rfl := Option.some.inj hR
                  exact g_iret C hr hlocks hA (by first | (dsimp only; done) | rfl) (by first | (dsimp only; done) | rfl) dX4_jug_105
                · have hR := (if_neg c_15_6).symm.trans hR
                  refine g_tableD C dX4_jug_15 [0, 1, 2, 3, 4, 5, 6] (ne_c c_15_0 (ne_c c_15_1 (ne_c c_15_2 (ne_c c_15_3 (ne_c c_15_4 (ne_c c_15_5 (ne_c c_15_6 ne_n))))))) (by decide +kernel) (by decide +kernel) 106 (by decide) ?_
                  refine g_aload_n C dX4_jug_106 rfl 107 rfl ?_
                  refine g_bipush C dX4_jug_107 (-2) bp_m2 109 rfl ?_
                  obtain ⟨v3, hv3, hR⟩ := opt_b hR
                  refine g_callI C (rn_V C (k_X4_no l g b S (-2) N_ v3 hv3) (cwV 1 C.1.2.2.2.2 (gdV wl_111 wl_108 wl_109 wl_110 wl_5) rfl rfl rfl hd_X4_no ⟨Nat.le_of_ble_eq_true rfl, Nat.le_of_ble_eq_true rfl⟩) 0 rfl rfl _ rg_C rg_n rfl rfl (Nat.le_of_ble_eq_true rfl) ⟨Nat.zero_le _, Nat.zero_le _⟩ dX4_jug_109) (wM g b v3.2) (rg_put (wM_len.trans wM_len.symm)) (rg_len (wM_len.trans wM_len.symm)) 112 rfl ?_
                  obtain rfl := Option.some.inj hR
                  exact g_iret C hr hlocks hA (by first | (dsimp only; done) | rfl) (by first | (dsimp only; done) | rfl) dX4_jug_112
  · refine g_aload_n C dX4_jug_8 rfl 9 rfl ?_
    refine g_iconst C dX4_jug_9 (-1) ic_m1 10 rfl ?_
    obtain ⟨v4, hv4, hR⟩ := opt_b hR
    refine g_callI C (rn_V C (k_X4_no l g b S (-1) N_ v4 hv4) (cwV 1 C.1.2.2.2.2 (gdV wl_111 wl_108 wl_109 wl_110 wl_5) rfl rfl rfl hd_X4_no ⟨Nat.le_of_ble_eq_true rfl, Nat.le_of_ble_eq_true rfl⟩) 0 rfl rfl _ rg_C rg_n rfl rfl (Nat.le_of_ble_eq_true rfl) ⟨Nat.zero_le _, Nat.zero_le _⟩ dX4_jug_10) (wM g b v4.2) (rg_put (wM_len.trans wM_len.symm)) (rg_len (wM_len.trans wM_len.symm)) 13 rfl ?_
    obtain rfl := Option.some.inj hR
    exact g_iret C hr hlocks hA (by first | (dsimp only; done) | rfl) (by first | (dsimp only; done) | rfl) dX4_jug_13
theorem hd_X4_cold : yX4_cold.cls = RX4 ∧ yX4_cold.cls ≠ "java/lang/invoke/MethodHandle" ∧ yX4_cold.cls ≠ "java/lang/invoke/VarHandle" ∧ (parseMethodDescriptor yX4_cold.desc).map (fun d => d.parameters.length) = some 1 := by decide +kernel
def f_X4_cold (S : (Nat → Nat → Int32) × (Nat → Nat → Int64)) (p0 : Int32) (N_ : Nat) : Option (Int32 × ((Nat → Nat → Int32) × (Nat → Nat → Int64))) :=
  if (f_X4_bound p0 0 99) = 0 then
    (f_X4_allStand S p0 N_).bind fun v1 =>
    (f_X4_allPoints v1 N_).bind fun v2 =>
    some (v2, v1)
  else
    (f_X4_no S (f_X4_bound p0 0 99) N_).bind fun v3 =>
    some (v3.1, v3.2)
set_option maxRecDepth 100000 in
set_option maxHeartbeats 4000000 in
theorem k_X4_cold (l : Launch) (g : gE) (b : Nat → Nat) (S : (Nat → Nat → Int32) × (Nat → Nat → Int64)) (p0 : Int32) (N_ : Nat) (R_ : Int32 × ((Nat → Nat → Int32) × (Nat → Nat → Int64))) (hR : f_X4_cold S p0 N_ = some R_) : FnI l g yX4_cold wA_X4_cold { frames := 3, cells := 0, slots := 0, locals := 64 } [.ref (b 0), .int p0] (wM g b S) R_.1 (wM g b R_.2) := by
  refine fEntry (As := [.ref (b 0), .int p0]) (maxL := 3) (ret := (some .int)) (by decide) rfl [some (.ref (b 0)), some (.int p0), none] (Nat.le_of_ble_eq_true rfl) (lvInB.to (lvInB.sm (lvInB.sm (lvInB.nn lvInB.nil)))) ?_
  intro p e s m below meth c A C hr hlocks hname hA
  have C : Cx p s m _ c g A cX4_cold 3 wA_X4_cold RX4 := C
  rw [f_X4_cold] at hR
  refine g_iload_n C dX4_cold_0 rfl 1 rfl ?_
  refine g_iconst C dX4_cold_1 0 ic_0 2 rfl ?_
  refine g_bipush C dX4_cold_2 99 bp_99 4 rfl ?_
  refine g_callIR C (rn_S C (k_X4_bound l g p0 0 99) (va_cwS 3 C.1.2.2.2.2 (gdS wl_107 wl_105 wl_106 wl_5) rfl rfl rfl hd_X4_bound.2 ⟨Nat.le_of_ble_eq_true rfl, Nat.le_of_ble_eq_true rfl⟩) [] rfl rfl rfl rfl (Nat.le_of_ble_eq_true rfl) ⟨Nat.zero_le _, Nat.zero_le _⟩ dX4_cold_4) 7 rfl ?_
  refine g_istore_n C dX4_cold_7 [_, _, _] (Nat.le_of_ble_eq_true rfl) rfl rfl 8 rfl ?_
  refine g_iload_n C dX4_cold_8 rfl 9 rfl ?_
  refine g_if_eq C dX4_cold_9 hR 18 12 (by decide) rfl (fun c_9 hR => ?_) (fun c_9 hR => ?_)
  · refine g_aload_n C dX4_cold_18 rfl 19 rfl ?_
    refine g_iload_n C dX4_cold_19 rfl 20 rfl ?_
    obtain ⟨v1, hv1, hR⟩ := opt_b hR
    refine g_callV C (rn_V C (k_X4_allStand l g b S p0 N_ v1 hv1) (cwV 1 C.1.2.2.2.2 (gdV wl_262 wl_259 wl_260 wl_261 wl_5) rfl rfl rfl hd_X4_allStand ⟨Nat.le_of_ble_eq_true rfl, Nat.le_of_ble_eq_true rfl⟩) 0 rfl rfl _ rg_C rg_n rfl rfl (Nat.le_of_ble_eq_true rfl) ⟨Nat.zero_le _, Nat.zero_le _⟩ dX4_cold_20) (wM g b v1) (rg_put (wM_len.trans wM_len.symm)) (rg_len (wM_len.trans wM_len.symm)) 23 rfl ?_
    refine g_aload_n C dX4_cold_23 rfl 24 rfl ?_
    obtain ⟨v2, hv2, hR⟩ := opt_b hR
    refine g_callIR C (rn_V C (k_X4_allPoints l g b v1 N_ v2 hv2) (cwV 0 C.1.2.2.2.2 (gdV wl_329 wl_326 wl_327 wl_328 wl_5) rfl rfl rfl hd_X4_allPoints ⟨Nat.le_of_ble_eq_true rfl, Nat.le_of_ble_eq_true rfl⟩) 0 rfl rfl _ rg_C rg_n rfl rfl (Nat.le_of_ble_eq_true rfl) ⟨Nat.zero_le _, Nat.zero_le _⟩ dX4_cold_24) 27 rfl ?_
    obtain rfl := Option.some.inj hR
    exact g_iret C hr hlocks hA (by first | (dsimp only; done) | rfl) (by first | (dsimp only; done) | rfl) dX4_cold_27
  · refine g_aload_n C dX4_cold_12 rfl 13 rfl ?_
    refine g_iload_n C dX4_cold_13 rfl 14 rfl ?_
    obtain ⟨v3, hv3, hR⟩ := opt_b hR
    refine g_callI C (rn_V C (k_X4_no l g b S (f_X4_bound p0 0 99) N_ v3 hv3) (cwV 1 C.1.2.2.2.2 (gdV wl_111 wl_108 wl_109 wl_110 wl_5) rfl rfl rfl hd_X4_no ⟨Nat.le_of_ble_eq_true rfl, Nat.le_of_ble_eq_true rfl⟩) 0 rfl rfl _ rg_C rg_n rfl rfl (Nat.le_of_ble_eq_true rfl) ⟨Nat.zero_le _, Nat.zero_le _⟩ dX4_cold_14) (wM g b v3.2) (rg_put (wM_len.trans wM_len.symm)) (rg_len (wM_len.trans wM_len.symm)) 17 rfl ?_
    obtain rfl := Option.some.inj hR
    exact g_iret C hr hlocks hA (by first | (dsimp only; done) | rfl) (by first | (dsimp only; done) | rfl) dX4_cold_17
theorem hd_X4_warm : yX4_warm.cls = RX4 ∧ yX4_warm.cls ≠ "java/lang/invoke/MethodHandle" ∧ yX4_warm.cls ≠ "java/lang/invoke/VarHandle" ∧ (parseMethodDescriptor yX4_warm.desc).map (fun d => d.parameters.length) = some 2 := by decide +kernel
def f_X4_warm (S : (Nat → Nat → Int32) × (Nat → Nat → Int64)) (p0 : Int32) (p1 : Int32) (N_ : Nat) : Option (Int32 × ((Nat → Nat → Int32) × (Nat → Nat → Int64))) :=
  if (b2i (f_X4_isJug S p0)) = 0 then
    (f_X4_no S (-1) N_).bind fun v4 =>
    some (v4.1, v4.2)
  else
    if (f_X4_bound p1 0 99) = 0 then
      (f_X4_warmOf S p0 N_).bind fun v1 =>
      (f_X4_gains S p0 (v1 * p1) N_).bind fun v2 =>
      if p0 < 0 ∨ 5 ≤ (Int32.toNatClampNeg p0) then none else
      some (((v2.1 5) (Int32.toNatClampNeg p0)), v2)
    else
      (f_X4_no S (f_X4_bound p1 0 99) N_).bind fun v3 =>
      some (v3.1, v3.2)
set_option maxRecDepth 100000 in
set_option maxHeartbeats 4000000 in
theorem k_X4_warm (l : Launch) (g : gE) (b : Nat → Nat) (S : (Nat → Nat → Int32) × (Nat → Nat → Int64)) (p0 : Int32) (p1 : Int32) (N_ : Nat) (R_ : Int32 × ((Nat → Nat → Int32) × (Nat → Nat → Int64))) (hR : f_X4_warm S p0 p1 N_ = some R_) : FnI l g yX4_warm wA_X4_warm { frames := 2, cells := 0, slots := 0, locals := 42 } [.ref (b 0), .int p0, .int p1] (wM g b S) R_.1 (wM g b R_.2) := by
  refine fEntry (As := [.ref (b 0), .int p0, .int p1]) (maxL := 4) (ret := (some .int)) (by decide) rfl [some (.ref (b 0)), some (.int p0), some (.int p1), none] (Nat.le_of_ble_eq_true rfl) (lvInB.to (lvInB.sm (lvInB.sm (lvInB.sm (lvInB.nn lvInB.nil))))) ?_
  intro p e s m below meth c A C hr hlocks hname hA
  have C : Cx p s m _ c g A cX4_warm 4 wA_X4_warm RX4 := C
  rw [f_X4_warm] at hR
  refine g_aload_n C dX4_warm_0 rfl 1 rfl ?_
  refine g_iload_n C dX4_warm_1 rfl 2 rfl ?_
  refine g_callIR C (rn_V C (k_X4_isJug l g b S p0) (cwV 1 C.1.2.2.2.2 (gdV wl_276 wl_273 wl_274 wl_275 wl_5) rfl rfl rfl hd_X4_isJug ⟨Nat.le_of_ble_eq_true rfl, Nat.le_of_ble_eq_true rfl⟩) 0 rfl rfl _ rg_C rg_n rfl rfl (Nat.le_of_ble_eq_true rfl) ⟨Nat.zero_le _, Nat.zero_le _⟩ dX4_warm_2) 5 rfl ?_
  refine g_if_ne C dX4_warm_5 hR 12 8 (by decide) rfl (fun c_5 hR => ?_) (fun c_5 hR => ?_)
  · refine g_iload_n C dX4_warm_12 rfl 13 rfl ?_
    refine g_iconst C dX4_warm_13 0 ic_0 14 rfl ?_
    refine g_bipush C dX4_warm_14 99 bp_99 16 rfl ?_
    refine g_callIR C (rn_S C (k_X4_bound l g p1 0 99) (va_cwS 3 C.1.2.2.2.2 (gdS wl_107 wl_105 wl_106 wl_5) rfl rfl rfl hd_X4_bound.2 ⟨Nat.le_of_ble_eq_true rfl, Nat.le_of_ble_eq_true rfl⟩) [] rfl rfl rfl rfl (Nat.le_of_ble_eq_true rfl) ⟨Nat.zero_le _, Nat.zero_le _⟩ dX4_warm_16) 19 rfl ?_
    refine g_istore_n C dX4_warm_19 [_, _, _, _] (Nat.le_of_ble_eq_true rfl) rfl rfl 20 rfl ?_
    refine g_iload_n C dX4_warm_20 rfl 21 rfl ?_
    refine g_if_eq C dX4_warm_21 hR 30 24 (by decide) rfl (fun c_21 hR => ?_) (fun c_21 hR => ?_)
    · refine g_aload_n C dX4_warm_30 rfl 31 rfl ?_
      refine g_iload_n C dX4_warm_31 rfl 32 rfl ?_
      refine g_aload_n C dX4_warm_32 rfl 33 rfl ?_
      refine g_iload_n C dX4_warm_33 rfl 34 rfl ?_
      obtain ⟨v1, hv1, hR⟩ := opt_b hR
      refine g_callIR C (rn_V C (k_X4_warmOf l g b S p0 N_ v1 hv1) (cwV 1 C.1.2.2.2.2 (gdV wl_280 wl_277 wl_278 wl_279 wl_5) rfl rfl rfl hd_X4_warmOf ⟨Nat.le_of_ble_eq_true rfl, Nat.le_of_ble_eq_true rfl⟩) 0 rfl rfl _ rg_C rg_n rfl rfl (Nat.le_of_ble_eq_true rfl) ⟨Nat.zero_le _, Nat.zero_le _⟩ dX4_warm_34) 37 rfl ?_
      refine g_iload_n C dX4_warm_37 rfl 38 rfl ?_
      refine g_imul C dX4_warm_38 39 rfl ?_
      obtain ⟨v2, hv2, hR⟩ := opt_b hR
      refine g_callV C (rn_V C (k_X4_gains l g b S p0 (v1 * p1) N_ v2 hv2) (cwV 2 C.1.2.2.2.2 (gdV wl_269 wl_266 wl_267 wl_268 wl_5) rfl rfl rfl hd_X4_gains ⟨Nat.le_of_ble_eq_true rfl, Nat.le_of_ble_eq_true rfl⟩) 0 rfl rfl _ rg_C rg_n rfl rfl (Nat.le_of_ble_eq_true rfl) ⟨Nat.zero_le _, Nat.zero_le _⟩ dX4_warm_39) (wM g b v2) (rg_put (wM_len.trans wM_len.symm)) (rg_len (wM_len.trans wM_len.symm)) 42 rfl ?_
      refine g_aload_n C dX4_warm_42 rfl 43 rfl ?_
      refine g_get (v := .ref (b 5)) C (hiC hiA_4) 0 rfl rfl 4 (by decide) (List.mem_cons_of_mem _ wl_70) rfl rfl dX4_warm_43 46 rfl ?_
      refine g_iload_n C dX4_warm_46 rfl 47 rfl ?_
      obtain ⟨h_47, hR⟩ := opt_n hR
      refine g_iald (f := (v2.1 5)) C 5 rfl h_47 dX4_warm_47 48 rfl ?_
      obtain rfl := Option.some.inj hR
      exact g_iret C hr hlocks hA (by first | (dsimp only; done) | rfl) (by first | (dsimp only; done) | rfl) dX4_warm_48
    · refine g_aload_n C dX4_warm_24 rfl 25 rfl ?_
      refine g_iload_n C dX4_warm_25 rfl 26 rfl ?_
      obtain ⟨v3, hv3, hR⟩ := opt_b hR
      refine g_callI C (rn_V C (k_X4_no l g b S (f_X4_bound p1 0 99) N_ v3 hv3) (cwV 1 C.1.2.2.2.2 (gdV wl_111 wl_108 wl_109 wl_110 wl_5) rfl rfl rfl hd_X4_no ⟨Nat.le_of_ble_eq_true rfl, Nat.le_of_ble_eq_true rfl⟩) 0 rfl rfl _ rg_C rg_n rfl rfl (Nat.le_of_ble_eq_true rfl) ⟨Nat.zero_le _, Nat.zero_le _⟩ dX4_warm_26) (wM g b v3.2) (rg_put (wM_len.trans wM_len.symm)) (rg_len (wM_len.trans wM_len.symm)) 29 rfl ?_
      obtain rfl := Option.some.inj hR
      exact g_iret C hr hlocks hA (by first | (dsimp only; done) | rfl) (by first | (dsimp only; done) | rfl) dX4_warm_29
  · refine g_iconst C dX4_warm_8 (-1) ic_m1 9 rfl ?_
    refine g_goto C dX4_warm_9 19 (by decide) ?_
    refine g_istore_n C dX4_warm_19 [_, _, _, _] (Nat.le_of_ble_eq_true rfl) rfl rfl 20 rfl ?_
    refine g_iload_n C dX4_warm_20 rfl 21 rfl ?_
    refine g_if_eqF C dX4_warm_21 (by decide) 30 24 (by decide) rfl ?_
    refine g_aload_n C dX4_warm_24 rfl 25 rfl ?_
    refine g_iload_n C dX4_warm_25 rfl 26 rfl ?_
    obtain ⟨v4, hv4, hR⟩ := opt_b hR
    refine g_callI C (rn_V C (k_X4_no l g b S (-1) N_ v4 hv4) (cwV 1 C.1.2.2.2.2 (gdV wl_111 wl_108 wl_109 wl_110 wl_5) rfl rfl rfl hd_X4_no ⟨Nat.le_of_ble_eq_true rfl, Nat.le_of_ble_eq_true rfl⟩) 0 rfl rfl _ rg_C rg_n rfl rfl (Nat.le_of_ble_eq_true rfl) ⟨Nat.zero_le _, Nat.zero_le _⟩ dX4_warm_26) (wM g b v4.2) (rg_put (wM_len.trans wM_len.symm)) (rg_len (wM_len.trans wM_len.symm)) 29 rfl ?_
    obtain rfl := Option.some.inj hR
    exact g_iret C hr hlocks hA (by first | (dsimp only; done) | rfl) (by first | (dsimp only; done) | rfl) dX4_warm_29
theorem hd_X4_hand : yX4_hand.cls = RX4 ∧ yX4_hand.cls ≠ "java/lang/invoke/MethodHandle" ∧ yX4_hand.cls ≠ "java/lang/invoke/VarHandle" ∧ (parseMethodDescriptor yX4_hand.desc).map (fun d => d.parameters.length) = some 1 := by decide +kernel
def f_X4_hand (S : (Nat → Nat → Int32) × (Nat → Nat → Int64)) (p0 : Int32) (N_ : Nat) : Option (Int32 × ((Nat → Nat → Int32) × (Nat → Nat → Int64))) :=
  if (b2i (f_X4_isJug S p0)) = 0 then
    (f_X4_no S (-1) N_).bind fun v1 =>
    some (v1.1, v1.2)
  else
    some ((S.1 0 1), ((kS S.1 0 (upd (upd (S.1 0) 1 p0) 2 0)), S.2))
set_option maxRecDepth 100000 in
set_option maxHeartbeats 4000000 in
theorem k_X4_hand (l : Launch) (g : gE) (b : Nat → Nat) (S : (Nat → Nat → Int32) × (Nat → Nat → Int64)) (p0 : Int32) (N_ : Nat) (R_ : Int32 × ((Nat → Nat → Int32) × (Nat → Nat → Int64))) (hR : f_X4_hand S p0 N_ = some R_) : FnI l g yX4_hand wA_X4_hand { frames := 1, cells := 0, slots := 0, locals := 21 } [.ref (b 0), .int p0] (wM g b S) R_.1 (wM g b R_.2) := by
  refine fEntry (As := [.ref (b 0), .int p0]) (maxL := 3) (ret := (some .int)) (by decide) rfl [some (.ref (b 0)), some (.int p0), none] (Nat.le_of_ble_eq_true rfl) (lvInB.to (lvInB.sm (lvInB.sm (lvInB.nn lvInB.nil)))) ?_
  intro p e s m below meth c A C hr hlocks hname hA
  have C : Cx p s m _ c g A cX4_hand 3 wA_X4_hand RX4 := C
  rw [f_X4_hand] at hR
  refine g_aload_n C dX4_hand_0 rfl 1 rfl ?_
  refine g_iload_n C dX4_hand_1 rfl 2 rfl ?_
  refine g_callIR C (rn_V C (k_X4_isJug l g b S p0) (cwV 1 C.1.2.2.2.2 (gdV wl_276 wl_273 wl_274 wl_275 wl_5) rfl rfl rfl hd_X4_isJug ⟨Nat.le_of_ble_eq_true rfl, Nat.le_of_ble_eq_true rfl⟩) 0 rfl rfl _ rg_C rg_n rfl rfl (Nat.le_of_ble_eq_true rfl) ⟨Nat.zero_le _, Nat.zero_le _⟩ dX4_hand_2) 5 rfl ?_
  refine g_if_ne C dX4_hand_5 hR 14 8 (by decide) rfl (fun c_5 hR => ?_) (fun c_5 hR => ?_)
  · refine g_aload_n C dX4_hand_14 rfl 15 rfl ?_
    refine g_get (v := .int (S.1 0 1)) C (hiC hiA_4) 0 rfl rfl 10 (by decide) (List.mem_cons_of_mem _ wl_240) rfl rfl dX4_hand_15 18 rfl ?_
    refine g_istore_n C dX4_hand_18 [_, _, _] (Nat.le_of_ble_eq_true rfl) rfl rfl 19 rfl ?_
    refine g_aload_n C dX4_hand_19 rfl 20 rfl ?_
    refine g_iload_n C dX4_hand_20 rfl 21 rfl ?_
    refine g_put C (hiC hiA_4) tyX4 tyX4_ok nmX4 0 rfl rfl 10 (by decide) (List.mem_cons_of_mem _ wl_240) rfl rfl rfl rfl (Nat.le_of_ble_eq_true rfl) dX4_hand_21 (wMr g b (S.1 0 0) p0 (S.1 0 2) (S.1 0 3) (S.1 0 4) (S.1 0 5) (S.1 0 6) (S.1 0 7) (S.1 0 8) (S.1 0 9) (S.1 0 10) (S.1 0 11) (S.1 0 12) (S.1 0 13) (S.1 0 14) (S.1 1) (S.1 2) (S.1 3) (S.1 4) (S.1 5) (S.1 6) (S.1 7) (S.1 8) (S.1 9) (S.1 10) (S.1 11) (S.1 12) (S.1 13) (S.1 14) (S.1 15) (S.1 16) (S.2 0) (S.2 1) (S.2 2)) rfl 24 rfl ?_
    refine g_aload_n C dX4_hand_24 rfl 25 rfl ?_
    refine g_iconst C dX4_hand_25 0 ic_0 26 rfl ?_
    refine g_put C (hiC hiA_4) tyX4 tyX4_ok nmX4 0 rfl rfl 11 (by decide) (List.mem_cons_of_mem _ wl_241) rfl rfl rfl rfl (Nat.le_of_ble_eq_true rfl) dX4_hand_26 (wMr g b (S.1 0 0) p0 0 (S.1 0 3) (S.1 0 4) (S.1 0 5) (S.1 0 6) (S.1 0 7) (S.1 0 8) (S.1 0 9) (S.1 0 10) (S.1 0 11) (S.1 0 12) (S.1 0 13) (S.1 0 14) (S.1 1) (S.1 2) (S.1 3) (S.1 4) (S.1 5) (S.1 6) (S.1 7) (S.1 8) (S.1 9) (S.1 10) (S.1 11) (S.1 12) (S.1 13) (S.1 14) (S.1 15) (S.1 16) (S.2 0) (S.2 1) (S.2 2)) rfl 29 rfl ?_
    refine g_iload_n C dX4_hand_29 rfl 30 rfl ?_
    obtain rfl := Option.some.inj hR
    exact g_iret C hr hlocks hA (by first | (dsimp only; done) | rfl) (by first | (dsimp only; done) | rfl) dX4_hand_30
  · refine g_aload_n C dX4_hand_8 rfl 9 rfl ?_
    refine g_iconst C dX4_hand_9 (-1) ic_m1 10 rfl ?_
    obtain ⟨v1, hv1, hR⟩ := opt_b hR
    refine g_callI C (rn_V C (k_X4_no l g b S (-1) N_ v1 hv1) (cwV 1 C.1.2.2.2.2 (gdV wl_111 wl_108 wl_109 wl_110 wl_5) rfl rfl rfl hd_X4_no ⟨Nat.le_of_ble_eq_true rfl, Nat.le_of_ble_eq_true rfl⟩) 0 rfl rfl _ rg_C rg_n rfl rfl (Nat.le_of_ble_eq_true rfl) ⟨Nat.zero_le _, Nat.zero_le _⟩ dX4_hand_10) (wM g b v1.2) (rg_put (wM_len.trans wM_len.symm)) (rg_len (wM_len.trans wM_len.symm)) 13 rfl ?_
    obtain rfl := Option.some.inj hR
    exact g_iret C hr hlocks hA (by first | (dsimp only; done) | rfl) (by first | (dsimp only; done) | rfl) dX4_hand_13
theorem hd_X4_see : yX4_see.cls = RX4 ∧ yX4_see.cls ≠ "java/lang/invoke/MethodHandle" ∧ yX4_see.cls ≠ "java/lang/invoke/VarHandle" ∧ (parseMethodDescriptor yX4_see.desc).map (fun d => d.parameters.length) = some 2 := by decide +kernel
def f_X4_see (S : (Nat → Nat → Int32) × (Nat → Nat → Int64)) (p0 : Int32) (p1 : Int32) (N_ : Nat) : Option (Int32 × ((Nat → Nat → Int32) × (Nat → Nat → Int64))) :=
  if (b2i (f_X4_isTest p0)) = 0 then
    (f_X4_no S (-1) N_).bind fun v5 =>
    some (v5.1, v5.2)
  else
    if (b2i (f_X4_isIn p1 0 1)) = 0 then
      (f_X4_no S (-2) N_).bind fun v4 =>
      some (v4.1, v4.2)
    else
      if (S.1 0 0) = 0 then
        (f_X4_no S (-3) N_).bind fun v3 =>
        some (v3.1, v3.2)
      else
        if (S.1 0 2) = 8 then
          (f_X4_no S (-6) N_).bind fun v2 =>
          some (v2.1, v2.2)
        else
          (f_X4_sees S p0 p1 N_).bind fun v1 =>
          some ((v1.1 0 2), v1)
set_option maxRecDepth 100000 in
set_option maxHeartbeats 4000000 in
theorem k_X4_see (l : Launch) (g : gE) (b : Nat → Nat) (S : (Nat → Nat → Int32) × (Nat → Nat → Int64)) (p0 : Int32) (p1 : Int32) (N_ : Nat) (R_ : Int32 × ((Nat → Nat → Int32) × (Nat → Nat → Int64))) (hR : f_X4_see S p0 p1 N_ = some R_) : FnI l g yX4_see wA_X4_see { frames := 1, cells := 0, slots := 0, locals := 22 } [.ref (b 0), .int p0, .int p1] (wM g b S) R_.1 (wM g b R_.2) := by
  refine fEntry (As := [.ref (b 0), .int p0, .int p1]) (maxL := 4) (ret := (some .int)) (by decide) rfl [some (.ref (b 0)), some (.int p0), some (.int p1), none] (Nat.le_of_ble_eq_true rfl) (lvInB.to (lvInB.sm (lvInB.sm (lvInB.sm (lvInB.nn lvInB.nil))))) ?_
  intro p e s m below meth c A C hr hlocks hname hA
  have C : Cx p s m _ c g A cX4_see 4 wA_X4_see RX4 := C
  rw [f_X4_see] at hR
  refine g_iload_n C dX4_see_0 rfl 1 rfl ?_
  refine g_callIR C (rn_S C (k_X4_isTest l g p0) (va_cwS 1 C.1.2.2.2.2 (gdS wl_360 wl_358 wl_359 wl_5) rfl rfl rfl hd_X4_isTest.2 ⟨Nat.le_of_ble_eq_true rfl, Nat.le_of_ble_eq_true rfl⟩) [] rfl rfl rfl rfl (Nat.le_of_ble_eq_true rfl) ⟨Nat.zero_le _, Nat.zero_le _⟩ dX4_see_1) 4 rfl ?_
  refine g_if_ne C dX4_see_4 hR 11 7 (by decide) rfl (fun c_4 hR => ?_) (fun c_4 hR => ?_)
  · refine g_iload_n C dX4_see_11 rfl 12 rfl ?_
    refine g_iconst C dX4_see_12 0 ic_0 13 rfl ?_
    refine g_iconst C dX4_see_13 1 ic_1 14 rfl ?_
    refine g_callIR C (rn_S C (k_X4_isIn l g p1 0 1) (va_cwS 3 C.1.2.2.2.2 (gdS wl_232 wl_230 wl_231 wl_5) rfl rfl rfl hd_X4_isIn.2 ⟨Nat.le_of_ble_eq_true rfl, Nat.le_of_ble_eq_true rfl⟩) [] rfl rfl rfl rfl (Nat.le_of_ble_eq_true rfl) ⟨Nat.zero_le _, Nat.zero_le _⟩ dX4_see_14) 17 rfl ?_
    refine g_if_ne C dX4_see_17 hR 25 20 (by decide) rfl (fun c_17 hR => ?_) (fun c_17 hR => ?_)
    · refine g_aload_n C dX4_see_25 rfl 26 rfl ?_
      refine g_get (v := .int (S.1 0 0)) C (hiC hiA_4) 0 rfl rfl 9 (by decide) (List.mem_cons_of_mem _ wl_239) rfl rfl dX4_see_26 29 rfl ?_
      refine g_if_ne C dX4_see_29 hR 37 32 (by decide) rfl (fun c_29 hR => ?_) (fun c_29 hR => ?_)
      · refine g_aload_n C dX4_see_37 rfl 38 rfl ?_
        refine g_get (v := .int (S.1 0 2)) C (hiC hiA_4) 0 rfl rfl 11 (by decide) (List.mem_cons_of_mem _ wl_241) rfl rfl dX4_see_38 41 rfl ?_
        refine g_bipush C dX4_see_41 8 bp_8 43 rfl ?_
        refine g_icmp_ne C dX4_see_43 hR 51 46 (by decide) rfl (fun c_43 hR => ?_) (fun c_43 hR => ?_)
        · refine g_iconst C dX4_see_51 0 ic_0 52 rfl ?_
          refine g_istore_n C dX4_see_52 [_, _, _, _] (Nat.le_of_ble_eq_true rfl) rfl rfl 53 rfl ?_
          refine g_iload_n C dX4_see_53 rfl 54 rfl ?_
          refine g_if_eqT C dX4_see_54 (by decide) 63 (by decide) ?_
          refine g_aload_n C dX4_see_63 rfl 64 rfl ?_
          refine g_iload_n C dX4_see_64 rfl 65 rfl ?_
          refine g_iload_n C dX4_see_65 rfl 66 rfl ?_
          obtain ⟨v1, hv1, hR⟩ := opt_b hR
          refine g_callV C (rn_V C (k_X4_sees l g b S p0 p1 N_ v1 hv1) (cwV 2 C.1.2.2.2.2 (gdV wl_288 wl_285 wl_286 wl_287 wl_5) rfl rfl rfl hd_X4_sees ⟨Nat.le_of_ble_eq_true rfl, Nat.le_of_ble_eq_true rfl⟩) 0 rfl rfl _ rg_C rg_n rfl rfl (Nat.le_of_ble_eq_true rfl) ⟨Nat.zero_le _, Nat.zero_le _⟩ dX4_see_66) (wM g b v1) (rg_put (wM_len.trans wM_len.symm)) (rg_len (wM_len.trans wM_len.symm)) 69 rfl ?_
          refine g_aload_n C dX4_see_69 rfl 70 rfl ?_
          refine g_get (v := .int (v1.1 0 2)) C (hiC hiA_4) 0 rfl rfl 11 (by decide) (List.mem_cons_of_mem _ wl_241) rfl rfl dX4_see_70 73 rfl ?_
          obtain rfl := Option.some.inj hR
          exact g_iret C hr hlocks hA (by first | (dsimp only; done) | rfl) (by first | (dsimp only; done) | rfl) dX4_see_73
        · refine g_bipush C dX4_see_46 (-6) bp_m6 48 rfl ?_
          refine g_goto C dX4_see_48 52 (by decide) ?_
          refine g_istore_n C dX4_see_52 [_, _, _, _] (Nat.le_of_ble_eq_true rfl) rfl rfl 53 rfl ?_
          refine g_iload_n C dX4_see_53 rfl 54 rfl ?_
          refine g_if_eqF C dX4_see_54 (by decide) 63 57 (by decide) rfl ?_
          refine g_aload_n C dX4_see_57 rfl 58 rfl ?_
          refine g_iload_n C dX4_see_58 rfl 59 rfl ?_
          obtain ⟨v2, hv2, hR⟩ := opt_b hR
          refine g_callI C (rn_V C (k_X4_no l g b S (-6) N_ v2 hv2) (cwV 1 C.1.2.2.2.2 (gdV wl_111 wl_108 wl_109 wl_110 wl_5) rfl rfl rfl hd_X4_no ⟨Nat.le_of_ble_eq_true rfl, Nat.le_of_ble_eq_true rfl⟩) 0 rfl rfl _ rg_C rg_n rfl rfl (Nat.le_of_ble_eq_true rfl) ⟨Nat.zero_le _, Nat.zero_le _⟩ dX4_see_59) (wM g b v2.2) (rg_put (wM_len.trans wM_len.symm)) (rg_len (wM_len.trans wM_len.symm)) 62 rfl ?_
          obtain rfl := Option.some.inj hR
          exact g_iret C hr hlocks hA (by first | (dsimp only; done) | rfl) (by first | (dsimp only; done) | rfl) dX4_see_62
      · refine g_bipush C dX4_see_32 (-3) bp_m3 34 rfl ?_
        refine g_goto C dX4_see_34 52 (by decide) ?_
        refine g_istore_n C dX4_see_52 [_, _, _, _] (Nat.le_of_ble_eq_true rfl) rfl rfl 53 rfl ?_
        refine g_iload_n C dX4_see_53 rfl 54 rfl ?_
        refine g_if_eqF C dX4_see_54 (by decide) 63 57 (by decide) rfl ?_
        refine g_aload_n C dX4_see_57 rfl 58 rfl ?_
        refine g_iload_n C dX4_see_58 rfl 59 rfl ?_
        obtain ⟨v3, hv3, hR⟩ := opt_b hR
        refine g_callI C (rn_V C (k_X4_no l g b S (-3) N_ v3 hv3) (cwV 1 C.1.2.2.2.2 (gdV wl_111 wl_108 wl_109 wl_110 wl_5) rfl rfl rfl hd_X4_no ⟨Nat.le_of_ble_eq_true rfl, Nat.le_of_ble_eq_true rfl⟩) 0 rfl rfl _ rg_C rg_n rfl rfl (Nat.le_of_ble_eq_true rfl) ⟨Nat.zero_le _, Nat.zero_le _⟩ dX4_see_59) (wM g b v3.2) (rg_put (wM_len.trans wM_len.symm)) (rg_len (wM_len.trans wM_len.symm)) 62 rfl ?_
        obtain rfl := Option.some.inj hR
        exact g_iret C hr hlocks hA (by first | (dsimp only; done) | rfl) (by first | (dsimp only; done) | rfl) dX4_see_62
    · refine g_bipush C dX4_see_20 (-2) bp_m2 22 rfl ?_
      refine g_goto C dX4_see_22 52 (by decide) ?_
      refine g_istore_n C dX4_see_52 [_, _, _, _] (Nat.le_of_ble_eq_true rfl) rfl rfl 53 rfl ?_
      refine g_iload_n C dX4_see_53 rfl 54 rfl ?_
      refine g_if_eqF C dX4_see_54 (by decide) 63 57 (by decide) rfl ?_
      refine g_aload_n C dX4_see_57 rfl 58 rfl ?_
      refine g_iload_n C dX4_see_58 rfl 59 rfl ?_
      obtain ⟨v4, hv4, hR⟩ := opt_b hR
      refine g_callI C (rn_V C (k_X4_no l g b S (-2) N_ v4 hv4) (cwV 1 C.1.2.2.2.2 (gdV wl_111 wl_108 wl_109 wl_110 wl_5) rfl rfl rfl hd_X4_no ⟨Nat.le_of_ble_eq_true rfl, Nat.le_of_ble_eq_true rfl⟩) 0 rfl rfl _ rg_C rg_n rfl rfl (Nat.le_of_ble_eq_true rfl) ⟨Nat.zero_le _, Nat.zero_le _⟩ dX4_see_59) (wM g b v4.2) (rg_put (wM_len.trans wM_len.symm)) (rg_len (wM_len.trans wM_len.symm)) 62 rfl ?_
      obtain rfl := Option.some.inj hR
      exact g_iret C hr hlocks hA (by first | (dsimp only; done) | rfl) (by first | (dsimp only; done) | rfl) dX4_see_62
  · refine g_iconst C dX4_see_7 (-1) ic_m1 8 rfl ?_
    refine g_goto C dX4_see_8 52 (by decide) ?_
    refine g_istore_n C dX4_see_52 [_, _, _, _] (Nat.le_of_ble_eq_true rfl) rfl rfl 53 rfl ?_
    refine g_iload_n C dX4_see_53 rfl 54 rfl ?_
    refine g_if_eqF C dX4_see_54 (by decide) 63 57 (by decide) rfl ?_
    refine g_aload_n C dX4_see_57 rfl 58 rfl ?_
    refine g_iload_n C dX4_see_58 rfl 59 rfl ?_
    obtain ⟨v5, hv5, hR⟩ := opt_b hR
    refine g_callI C (rn_V C (k_X4_no l g b S (-1) N_ v5 hv5) (cwV 1 C.1.2.2.2.2 (gdV wl_111 wl_108 wl_109 wl_110 wl_5) rfl rfl rfl hd_X4_no ⟨Nat.le_of_ble_eq_true rfl, Nat.le_of_ble_eq_true rfl⟩) 0 rfl rfl _ rg_C rg_n rfl rfl (Nat.le_of_ble_eq_true rfl) ⟨Nat.zero_le _, Nat.zero_le _⟩ dX4_see_59) (wM g b v5.2) (rg_put (wM_len.trans wM_len.symm)) (rg_len (wM_len.trans wM_len.symm)) 62 rfl ?_
    obtain rfl := Option.some.inj hR
    exact g_iret C hr hlocks hA (by first | (dsimp only; done) | rfl) (by first | (dsimp only; done) | rfl) dX4_see_62
theorem hd_X4_unsee : yX4_unsee.cls = RX4 ∧ yX4_unsee.cls ≠ "java/lang/invoke/MethodHandle" ∧ yX4_unsee.cls ≠ "java/lang/invoke/VarHandle" ∧ (parseMethodDescriptor yX4_unsee.desc).map (fun d => d.parameters.length) = some 0 := by decide +kernel
def f_X4_unsee (S : (Nat → Nat → Int32) × (Nat → Nat → Int64)) (N_ : Nat) : Option (Int32 × ((Nat → Nat → Int32) × (Nat → Nat → Int64))) :=
  if (S.1 0 2) = 0 then
    (f_X4_no S (-3) N_).bind fun v1 =>
    some (v1.1, v1.2)
  else
    some (((S.1 0 2) - 1), ((kS S.1 0 (upd (S.1 0) 2 ((S.1 0 2) - 1))), S.2))
set_option maxRecDepth 100000 in
set_option maxHeartbeats 4000000 in
theorem k_X4_unsee (l : Launch) (g : gE) (b : Nat → Nat) (S : (Nat → Nat → Int32) × (Nat → Nat → Int64)) (N_ : Nat) (R_ : Int32 × ((Nat → Nat → Int32) × (Nat → Nat → Int64))) (hR : f_X4_unsee S N_ = some R_) : FnI l g yX4_unsee wA_X4_unsee { frames := 1, cells := 0, slots := 0, locals := 21 } [.ref (b 0)] (wM g b S) R_.1 (wM g b R_.2) := by
  refine fEntry (As := [.ref (b 0)]) (maxL := 1) (ret := (some .int)) (by decide) rfl [some (.ref (b 0))] (Nat.le_of_ble_eq_true rfl) (lvInB.to (lvInB.sm lvInB.nil)) ?_
  intro p e s m below meth c A C hr hlocks hname hA
  have C : Cx p s m _ c g A cX4_unsee 1 wA_X4_unsee RX4 := C
  rw [f_X4_unsee] at hR
  refine g_aload_n C dX4_unsee_0 rfl 1 rfl ?_
  refine g_get (v := .int (S.1 0 2)) C (hiC hiA_4) 0 rfl rfl 11 (by decide) (List.mem_cons_of_mem _ wl_241) rfl rfl dX4_unsee_1 4 rfl ?_
  refine g_if_ne C dX4_unsee_4 hR 14 7 (by decide) rfl (fun c_4 hR => ?_) (fun c_4 hR => ?_)
  · refine g_aload_n C dX4_unsee_14 rfl 15 rfl ?_
    refine g_dup C dX4_unsee_15 rfl 16 rfl ?_
    refine g_get (v := .int (S.1 0 2)) C (hiC hiA_4) 0 rfl rfl 11 (by decide) (List.mem_cons_of_mem _ wl_241) rfl rfl dX4_unsee_16 19 rfl ?_
    refine g_iconst C dX4_unsee_19 1 ic_1 20 rfl ?_
    refine g_isub C dX4_unsee_20 21 rfl ?_
    refine g_put C (hiC hiA_4) tyX4 tyX4_ok nmX4 0 rfl rfl 11 (by decide) (List.mem_cons_of_mem _ wl_241) rfl rfl rfl rfl (Nat.le_of_ble_eq_true rfl) dX4_unsee_21 (wMr g b (S.1 0 0) (S.1 0 1) ((S.1 0 2) - 1) (S.1 0 3) (S.1 0 4) (S.1 0 5) (S.1 0 6) (S.1 0 7) (S.1 0 8) (S.1 0 9) (S.1 0 10) (S.1 0 11) (S.1 0 12) (S.1 0 13) (S.1 0 14) (S.1 1) (S.1 2) (S.1 3) (S.1 4) (S.1 5) (S.1 6) (S.1 7) (S.1 8) (S.1 9) (S.1 10) (S.1 11) (S.1 12) (S.1 13) (S.1 14) (S.1 15) (S.1 16) (S.2 0) (S.2 1) (S.2 2)) rfl 24 rfl ?_
    refine g_aload_n C dX4_unsee_24 rfl 25 rfl ?_
    refine g_get (v := .int ((S.1 0 2) - 1)) C (hiC hiA_4) 0 rfl rfl 11 (by decide) (List.mem_cons_of_mem _ wl_241) rfl rfl dX4_unsee_25 28 rfl ?_
    obtain rfl := Option.some.inj hR
    exact g_iret C hr hlocks hA (by first | (dsimp only; done) | rfl) (by first | (dsimp only; done) | rfl) dX4_unsee_28
  · refine g_aload_n C dX4_unsee_7 rfl 8 rfl ?_
    refine g_bipush C dX4_unsee_8 (-3) bp_m3 10 rfl ?_
    obtain ⟨v1, hv1, hR⟩ := opt_b hR
    refine g_callI C (rn_V C (k_X4_no l g b S (-3) N_ v1 hv1) (cwV 1 C.1.2.2.2.2 (gdV wl_111 wl_108 wl_109 wl_110 wl_5) rfl rfl rfl hd_X4_no ⟨Nat.le_of_ble_eq_true rfl, Nat.le_of_ble_eq_true rfl⟩) 0 rfl rfl _ rg_C rg_n rfl rfl (Nat.le_of_ble_eq_true rfl) ⟨Nat.zero_le _, Nat.zero_le _⟩ dX4_unsee_10) (wM g b v1.2) (rg_put (wM_len.trans wM_len.symm)) (rg_len (wM_len.trans wM_len.symm)) 13 rfl ?_
    obtain rfl := Option.some.inj hR
    exact g_iret C hr hlocks hA (by first | (dsimp only; done) | rfl) (by first | (dsimp only; done) | rfl) dX4_unsee_13
theorem hd_X4_use : yX4_use.cls = RX4 ∧ yX4_use.cls ≠ "java/lang/invoke/MethodHandle" ∧ yX4_use.cls ≠ "java/lang/invoke/VarHandle" ∧ (parseMethodDescriptor yX4_use.desc).map (fun d => d.parameters.length) = some 1 := by decide +kernel
def f_X4_use (S : (Nat → Nat → Int32) × (Nat → Nat → Int64)) (p0 : Int32) (N_ : Nat) : Option (Int32 × ((Nat → Nat → Int32) × (Nat → Nat → Int64))) :=
  if (S.1 0 0) = 0 then
    (f_X4_no S (-3) N_).bind fun v3 =>
    some (v3.1, v3.2)
  else
    if (S.1 0 1) < 0 ∨ 5 ≤ (Int32.toNatClampNeg (S.1 0 1)) then none else
    if (f_X4_bound p0 1 ((S.1 4) (Int32.toNatClampNeg (S.1 0 1)))) = 0 then
      (f_X4_uses S p0 N_).bind fun v1 =>
      some (v1.1, v1.2)
    else
      (f_X4_no S (f_X4_bound p0 1 ((S.1 4) (Int32.toNatClampNeg (S.1 0 1)))) N_).bind fun v2 =>
      some (v2.1, v2.2)
set_option maxRecDepth 100000 in
set_option maxHeartbeats 4000000 in
theorem k_X4_use (l : Launch) (g : gE) (b : Nat → Nat) (S : (Nat → Nat → Int32) × (Nat → Nat → Int64)) (p0 : Int32) (N_ : Nat) (R_ : Int32 × ((Nat → Nat → Int32) × (Nat → Nat → Int64))) (hR : f_X4_use S p0 N_ = some R_) : FnI l g yX4_use wA_X4_use { frames := 1, cells := 0, slots := 0, locals := 23 } [.ref (b 0), .int p0] (wM g b S) R_.1 (wM g b R_.2) := by
  refine fEntry (As := [.ref (b 0), .int p0]) (maxL := 3) (ret := (some .int)) (by decide) rfl [some (.ref (b 0)), some (.int p0), none] (Nat.le_of_ble_eq_true rfl) (lvInB.to (lvInB.sm (lvInB.sm (lvInB.nn lvInB.nil)))) ?_
  intro p e s m below meth c A C hr hlocks hname hA
  have C : Cx p s m _ c g A cX4_use 3 wA_X4_use RX4 := C
  rw [f_X4_use] at hR
  refine g_aload_n C dX4_use_0 rfl 1 rfl ?_
  refine g_get (v := .int (S.1 0 0)) C (hiC hiA_4) 0 rfl rfl 9 (by decide) (List.mem_cons_of_mem _ wl_239) rfl rfl dX4_use_1 4 rfl ?_
  refine g_if_ne C dX4_use_4 hR 12 7 (by decide) rfl (fun c_4 hR => ?_) (fun c_4 hR => ?_)
  · refine g_iload_n C dX4_use_12 rfl 13 rfl ?_
    refine g_iconst C dX4_use_13 1 ic_1 14 rfl ?_
    refine g_aload_n C dX4_use_14 rfl 15 rfl ?_
    refine g_get (v := .ref (b 4)) C (hiC hiA_4) 0 rfl rfl 3 (by decide) (List.mem_cons_of_mem _ wl_69) rfl rfl dX4_use_15 18 rfl ?_
    refine g_aload_n C dX4_use_18 rfl 19 rfl ?_
    refine g_get (v := .int (S.1 0 1)) C (hiC hiA_4) 0 rfl rfl 10 (by decide) (List.mem_cons_of_mem _ wl_240) rfl rfl dX4_use_19 22 rfl ?_
    obtain ⟨h_22, hR⟩ := opt_n hR
    refine g_iald (f := (S.1 4)) C 4 rfl h_22 dX4_use_22 23 rfl ?_
    refine g_callIR C (rn_S C (k_X4_bound l g p0 1 ((S.1 4) (Int32.toNatClampNeg (S.1 0 1)))) (va_cwS 3 C.1.2.2.2.2 (gdS wl_107 wl_105 wl_106 wl_5) rfl rfl rfl hd_X4_bound.2 ⟨Nat.le_of_ble_eq_true rfl, Nat.le_of_ble_eq_true rfl⟩) [] rfl rfl rfl rfl (Nat.le_of_ble_eq_true rfl) ⟨Nat.zero_le _, Nat.zero_le _⟩ dX4_use_23) 26 rfl ?_
    refine g_istore_n C dX4_use_26 [_, _, _] (Nat.le_of_ble_eq_true rfl) rfl rfl 27 rfl ?_
    refine g_iload_n C dX4_use_27 rfl 28 rfl ?_
    refine g_if_eq C dX4_use_28 hR 39 31 (by decide) rfl (fun c_28 hR => ?_) (fun c_28 hR => ?_)
    · refine g_aload_n C dX4_use_39 rfl 40 rfl ?_
      refine g_iload_n C dX4_use_40 rfl 41 rfl ?_
      obtain ⟨v1, hv1, hR⟩ := opt_b hR
      refine g_callI C (rn_V C (k_X4_uses l g b S p0 N_ v1 hv1) (cwV 1 C.1.2.2.2.2 (gdV wl_296 wl_293 wl_294 wl_295 wl_5) rfl rfl rfl hd_X4_uses ⟨Nat.le_of_ble_eq_true rfl, Nat.le_of_ble_eq_true rfl⟩) 0 rfl rfl _ rg_C rg_n rfl rfl (Nat.le_of_ble_eq_true rfl) ⟨Nat.zero_le _, Nat.zero_le _⟩ dX4_use_41) (wM g b v1.2) (rg_put (wM_len.trans wM_len.symm)) (rg_len (wM_len.trans wM_len.symm)) 44 rfl ?_
      obtain rfl := Option.some.inj hR
      exact g_iret C hr hlocks hA (by first | (dsimp only; done) | rfl) (by first | (dsimp only; done) | rfl) dX4_use_44
    · refine g_aload_n C dX4_use_31 rfl 32 rfl ?_
      refine g_iload_n C dX4_use_32 rfl 33 rfl ?_
      obtain ⟨v2, hv2, hR⟩ := opt_b hR
      refine g_callI C (rn_V C (k_X4_no l g b S (f_X4_bound p0 1 ((S.1 4) (Int32.toNatClampNeg (S.1 0 1)))) N_ v2 hv2) (cwV 1 C.1.2.2.2.2 (gdV wl_111 wl_108 wl_109 wl_110 wl_5) rfl rfl rfl hd_X4_no ⟨Nat.le_of_ble_eq_true rfl, Nat.le_of_ble_eq_true rfl⟩) 0 rfl rfl _ rg_C rg_n rfl rfl (Nat.le_of_ble_eq_true rfl) ⟨Nat.zero_le _, Nat.zero_le _⟩ dX4_use_33) (wM g b v2.2) (rg_put (wM_len.trans wM_len.symm)) (rg_len (wM_len.trans wM_len.symm)) 36 rfl ?_
      refine g_goto C dX4_use_36 44 (by decide) ?_
      obtain rfl := Option.some.inj hR
      exact g_iret C hr hlocks hA (by first | (dsimp only; done) | rfl) (by first | (dsimp only; done) | rfl) dX4_use_44
  · refine g_bipush C dX4_use_7 (-3) bp_m3 9 rfl ?_
    refine g_goto C dX4_use_9 26 (by decide) ?_
    refine g_istore_n C dX4_use_26 [_, _, _] (Nat.le_of_ble_eq_true rfl) rfl rfl 27 rfl ?_
    refine g_iload_n C dX4_use_27 rfl 28 rfl ?_
    refine g_if_eqF C dX4_use_28 (by decide) 39 31 (by decide) rfl ?_
    refine g_aload_n C dX4_use_31 rfl 32 rfl ?_
    refine g_iload_n C dX4_use_32 rfl 33 rfl ?_
    obtain ⟨v3, hv3, hR⟩ := opt_b hR
    refine g_callI C (rn_V C (k_X4_no l g b S (-3) N_ v3 hv3) (cwV 1 C.1.2.2.2.2 (gdV wl_111 wl_108 wl_109 wl_110 wl_5) rfl rfl rfl hd_X4_no ⟨Nat.le_of_ble_eq_true rfl, Nat.le_of_ble_eq_true rfl⟩) 0 rfl rfl _ rg_C rg_n rfl rfl (Nat.le_of_ble_eq_true rfl) ⟨Nat.zero_le _, Nat.zero_le _⟩ dX4_use_33) (wM g b v3.2) (rg_put (wM_len.trans wM_len.symm)) (rg_len (wM_len.trans wM_len.symm)) 36 rfl ?_
    refine g_goto C dX4_use_36 44 (by decide) ?_
    obtain rfl := Option.some.inj hR
    exact g_iret C hr hlocks hA (by first | (dsimp only; done) | rfl) (by first | (dsimp only; done) | rfl) dX4_use_44
theorem hd_X4_cost : yX4_cost.cls = RX4 ∧ yX4_cost.cls ≠ "java/lang/invoke/MethodHandle" ∧ yX4_cost.cls ≠ "java/lang/invoke/VarHandle" ∧ (parseMethodDescriptor yX4_cost.desc).map (fun d => d.parameters.length) = some 2 := by decide +kernel
def f_X4_cost (S : (Nat → Nat → Int32) × (Nat → Nat → Int64)) (p0 : Int32) (p1 : Int32) (N_ : Nat) : Option (Int32 × ((Nat → Nat → Int32) × (Nat → Nat → Int64))) :=
  if (b2i (f_X4_isTest p0)) = 0 then
    (f_X4_no S (-1) N_).bind fun v2 =>
    some (v2.1, v2.2)
  else
    if (f_X4_bound p1 0 9) = 0 then
      if p0 < 0 ∨ 4 ≤ (Int32.toNatClampNeg p0) then none else
      if p0 < 0 ∨ 4 ≤ (Int32.toNatClampNeg p0) then none else
      some (((S.1 6) (Int32.toNatClampNeg p0)), ((kS S.1 6 (upd (S.1 6) (Int32.toNatClampNeg p0) p1)), S.2))
    else
      (f_X4_no S (f_X4_bound p1 0 9) N_).bind fun v1 =>
      some (v1.1, v1.2)
set_option maxRecDepth 100000 in
set_option maxHeartbeats 4000000 in
theorem k_X4_cost (l : Launch) (g : gE) (b : Nat → Nat) (S : (Nat → Nat → Int32) × (Nat → Nat → Int64)) (p0 : Int32) (p1 : Int32) (N_ : Nat) (R_ : Int32 × ((Nat → Nat → Int32) × (Nat → Nat → Int64))) (hR : f_X4_cost S p0 p1 N_ = some R_) : FnI l g yX4_cost wA_X4_cost { frames := 1, cells := 0, slots := 0, locals := 22 } [.ref (b 0), .int p0, .int p1] (wM g b S) R_.1 (wM g b R_.2) := by
  refine fEntry (As := [.ref (b 0), .int p0, .int p1]) (maxL := 5) (ret := (some .int)) (by decide) rfl [some (.ref (b 0)), some (.int p0), some (.int p1), none, none] (Nat.le_of_ble_eq_true rfl) (lvInB.to (lvInB.sm (lvInB.sm (lvInB.sm (lvInB.nn (lvInB.nn lvInB.nil)))))) ?_
  intro p e s m below meth c A C hr hlocks hname hA
  have C : Cx p s m _ c g A cX4_cost 5 wA_X4_cost RX4 := C
  rw [f_X4_cost] at hR
  refine g_iload_n C dX4_cost_0 rfl 1 rfl ?_
  refine g_callIR C (rn_S C (k_X4_isTest l g p0) (va_cwS 1 C.1.2.2.2.2 (gdS wl_360 wl_358 wl_359 wl_5) rfl rfl rfl hd_X4_isTest.2 ⟨Nat.le_of_ble_eq_true rfl, Nat.le_of_ble_eq_true rfl⟩) [] rfl rfl rfl rfl (Nat.le_of_ble_eq_true rfl) ⟨Nat.zero_le _, Nat.zero_le _⟩ dX4_cost_1) 4 rfl ?_
  refine g_if_ne C dX4_cost_4 hR 11 7 (by decide) rfl (fun c_4 hR => ?_) (fun c_4 hR => ?_)
  · refine g_iload_n C dX4_cost_11 rfl 12 rfl ?_
    refine g_iconst C dX4_cost_12 0 ic_0 13 rfl ?_
    refine g_bipush C dX4_cost_13 9 bp_9 15 rfl ?_
    refine g_callIR C (rn_S C (k_X4_bound l g p1 0 9) (va_cwS 3 C.1.2.2.2.2 (gdS wl_107 wl_105 wl_106 wl_5) rfl rfl rfl hd_X4_bound.2 ⟨Nat.le_of_ble_eq_true rfl, Nat.le_of_ble_eq_true rfl⟩) [] rfl rfl rfl rfl (Nat.le_of_ble_eq_true rfl) ⟨Nat.zero_le _, Nat.zero_le _⟩ dX4_cost_15) 18 rfl ?_
    refine g_istore_n C dX4_cost_18 [_, _, _, _, _] (Nat.le_of_ble_eq_true rfl) rfl rfl 19 rfl ?_
    refine g_iload_n C dX4_cost_19 rfl 20 rfl ?_
    refine g_if_eq C dX4_cost_20 hR 29 23 (by decide) rfl (fun c_20 hR => ?_) (fun c_20 hR => ?_)
    · refine g_aload_n C dX4_cost_29 rfl 30 rfl ?_
      refine g_get (v := .ref (b 6)) C (hiC hiA_4) 0 rfl rfl 5 (by decide) (List.mem_cons_of_mem _ wl_71) rfl rfl dX4_cost_30 33 rfl ?_
      refine g_iload_n C dX4_cost_33 rfl 34 rfl ?_
      obtain ⟨h_34, hR⟩ := opt_n hR
      refine g_iald (f := (S.1 6)) C 6 rfl h_34 dX4_cost_34 35 rfl ?_
      refine g_istore C dX4_cost_35 [_, _, _, _, _] (Nat.le_of_ble_eq_true rfl) rfl rfl 37 rfl ?_
      refine g_aload_n C dX4_cost_37 rfl 38 rfl ?_
      refine g_get (v := .ref (b 6)) C (hiC hiA_4) 0 rfl rfl 5 (by decide) (List.mem_cons_of_mem _ wl_71) rfl rfl dX4_cost_38 41 rfl ?_
      refine g_iload_n C dX4_cost_41 rfl 42 rfl ?_
      refine g_iload_n C dX4_cost_42 rfl 43 rfl ?_
      obtain ⟨h_43, hR⟩ := opt_n hR
      refine g_iast (f := (S.1 6)) C 6 rfl h_43 dX4_cost_43 (wMr g b (S.1 0 0) (S.1 0 1) (S.1 0 2) (S.1 0 3) (S.1 0 4) (S.1 0 5) (S.1 0 6) (S.1 0 7) (S.1 0 8) (S.1 0 9) (S.1 0 10) (S.1 0 11) (S.1 0 12) (S.1 0 13) (S.1 0 14) (S.1 1) (S.1 2) (S.1 3) (S.1 4) (S.1 5) (upd (S.1 6) (Int32.toNatClampNeg p0) p1) (S.1 7) (S.1 8) (S.1 9) (S.1 10) (S.1 11) (S.1 12) (S.1 13) (S.1 14) (S.1 15) (S.1 16) (S.2 0) (S.2 1) (S.2 2)) rfl 44 rfl ?_
      refine g_iload C dX4_cost_44 rfl 46 rfl ?_
      obtain rfl := Option.some.inj hR
      exact g_iret C hr hlocks hA (by first | (dsimp only; done) | rfl) (by first | (dsimp only; done) | rfl) dX4_cost_46
    · refine g_aload_n C dX4_cost_23 rfl 24 rfl ?_
      refine g_iload_n C dX4_cost_24 rfl 25 rfl ?_
      obtain ⟨v1, hv1, hR⟩ := opt_b hR
      refine g_callI C (rn_V C (k_X4_no l g b S (f_X4_bound p1 0 9) N_ v1 hv1) (cwV 1 C.1.2.2.2.2 (gdV wl_111 wl_108 wl_109 wl_110 wl_5) rfl rfl rfl hd_X4_no ⟨Nat.le_of_ble_eq_true rfl, Nat.le_of_ble_eq_true rfl⟩) 0 rfl rfl _ rg_C rg_n rfl rfl (Nat.le_of_ble_eq_true rfl) ⟨Nat.zero_le _, Nat.zero_le _⟩ dX4_cost_25) (wM g b v1.2) (rg_put (wM_len.trans wM_len.symm)) (rg_len (wM_len.trans wM_len.symm)) 28 rfl ?_
      obtain rfl := Option.some.inj hR
      exact g_iret C hr hlocks hA (by first | (dsimp only; done) | rfl) (by first | (dsimp only; done) | rfl) dX4_cost_28
  · refine g_iconst C dX4_cost_7 (-1) ic_m1 8 rfl ?_
    refine g_goto C dX4_cost_8 18 (by decide) ?_
    refine g_istore_n C dX4_cost_18 [_, _, _, _, _] (Nat.le_of_ble_eq_true rfl) rfl rfl 19 rfl ?_
    refine g_iload_n C dX4_cost_19 rfl 20 rfl ?_
    refine g_if_eqF C dX4_cost_20 (by decide) 29 23 (by decide) rfl ?_
    refine g_aload_n C dX4_cost_23 rfl 24 rfl ?_
    refine g_iload_n C dX4_cost_24 rfl 25 rfl ?_
    obtain ⟨v2, hv2, hR⟩ := opt_b hR
    refine g_callI C (rn_V C (k_X4_no l g b S (-1) N_ v2 hv2) (cwV 1 C.1.2.2.2.2 (gdV wl_111 wl_108 wl_109 wl_110 wl_5) rfl rfl rfl hd_X4_no ⟨Nat.le_of_ble_eq_true rfl, Nat.le_of_ble_eq_true rfl⟩) 0 rfl rfl _ rg_C rg_n rfl rfl (Nat.le_of_ble_eq_true rfl) ⟨Nat.zero_le _, Nat.zero_le _⟩ dX4_cost_25) (wM g b v2.2) (rg_put (wM_len.trans wM_len.symm)) (rg_len (wM_len.trans wM_len.symm)) 28 rfl ?_
    obtain rfl := Option.some.inj hR
    exact g_iret C hr hlocks hA (by first | (dsimp only; done) | rfl) (by first | (dsimp only; done) | rfl) dX4_cost_28
theorem hd_X4_price : yX4_price.cls = RX4 ∧ yX4_price.cls ≠ "java/lang/invoke/MethodHandle" ∧ yX4_price.cls ≠ "java/lang/invoke/VarHandle" ∧ (parseMethodDescriptor yX4_price.desc).map (fun d => d.parameters.length) = some 1 := by decide +kernel
def f_X4_price (S : (Nat → Nat → Int32) × (Nat → Nat → Int64)) (p0 : Int32) (N_ : Nat) : Option (Int32 × ((Nat → Nat → Int32) × (Nat → Nat → Int64))) :=
  if (f_X4_bound p0 0 9) = 0 then
    some ((S.1 0 4), ((kS S.1 0 (upd (S.1 0) 4 p0)), S.2))
  else
    (f_X4_no S (f_X4_bound p0 0 9) N_).bind fun v1 =>
    some (v1.1, v1.2)
set_option maxRecDepth 100000 in
set_option maxHeartbeats 4000000 in
theorem k_X4_price (l : Launch) (g : gE) (b : Nat → Nat) (S : (Nat → Nat → Int32) × (Nat → Nat → Int64)) (p0 : Int32) (N_ : Nat) (R_ : Int32 × ((Nat → Nat → Int32) × (Nat → Nat → Int64))) (hR : f_X4_price S p0 N_ = some R_) : FnI l g yX4_price wA_X4_price { frames := 1, cells := 0, slots := 0, locals := 22 } [.ref (b 0), .int p0] (wM g b S) R_.1 (wM g b R_.2) := by
  refine fEntry (As := [.ref (b 0), .int p0]) (maxL := 4) (ret := (some .int)) (by decide) rfl [some (.ref (b 0)), some (.int p0), none, none] (Nat.le_of_ble_eq_true rfl) (lvInB.to (lvInB.sm (lvInB.sm (lvInB.nn (lvInB.nn lvInB.nil))))) ?_
  intro p e s m below meth c A C hr hlocks hname hA
  have C : Cx p s m _ c g A cX4_price 4 wA_X4_price RX4 := C
  rw [f_X4_price] at hR
  refine g_iload_n C dX4_price_0 rfl 1 rfl ?_
  refine g_iconst C dX4_price_1 0 ic_0 2 rfl ?_
  refine g_bipush C dX4_price_2 9 bp_9 4 rfl ?_
  refine g_callIR C (rn_S C (k_X4_bound l g p0 0 9) (va_cwS 3 C.1.2.2.2.2 (gdS wl_107 wl_105 wl_106 wl_5) rfl rfl rfl hd_X4_bound.2 ⟨Nat.le_of_ble_eq_true rfl, Nat.le_of_ble_eq_true rfl⟩) [] rfl rfl rfl rfl (Nat.le_of_ble_eq_true rfl) ⟨Nat.zero_le _, Nat.zero_le _⟩ dX4_price_4) 7 rfl ?_
  refine g_istore_n C dX4_price_7 [_, _, _, _] (Nat.le_of_ble_eq_true rfl) rfl rfl 8 rfl ?_
  refine g_iload_n C dX4_price_8 rfl 9 rfl ?_
  refine g_if_eq C dX4_price_9 hR 18 12 (by decide) rfl (fun c_9 hR => ?_) (fun c_9 hR => ?_)
  · refine g_aload_n C dX4_price_18 rfl 19 rfl ?_
    refine g_get (v := .int (S.1 0 4)) C (hiC hiA_4) 0 rfl rfl 13 (by decide) (List.mem_cons_of_mem _ wl_85) rfl rfl dX4_price_19 22 rfl ?_
    refine g_istore_n C dX4_price_22 [_, _, _, _] (Nat.le_of_ble_eq_true rfl) rfl rfl 23 rfl ?_
    refine g_aload_n C dX4_price_23 rfl 24 rfl ?_
    refine g_iload_n C dX4_price_24 rfl 25 rfl ?_
    refine g_put C (hiC hiA_4) tyX4 tyX4_ok nmX4 0 rfl rfl 13 (by decide) (List.mem_cons_of_mem _ wl_85) rfl rfl rfl rfl (Nat.le_of_ble_eq_true rfl) dX4_price_25 (wMr g b (S.1 0 0) (S.1 0 1) (S.1 0 2) (S.1 0 3) p0 (S.1 0 5) (S.1 0 6) (S.1 0 7) (S.1 0 8) (S.1 0 9) (S.1 0 10) (S.1 0 11) (S.1 0 12) (S.1 0 13) (S.1 0 14) (S.1 1) (S.1 2) (S.1 3) (S.1 4) (S.1 5) (S.1 6) (S.1 7) (S.1 8) (S.1 9) (S.1 10) (S.1 11) (S.1 12) (S.1 13) (S.1 14) (S.1 15) (S.1 16) (S.2 0) (S.2 1) (S.2 2)) rfl 28 rfl ?_
    refine g_iload_n C dX4_price_28 rfl 29 rfl ?_
    obtain rfl := Option.some.inj hR
    exact g_iret C hr hlocks hA (by first | (dsimp only; done) | rfl) (by first | (dsimp only; done) | rfl) dX4_price_29
  · refine g_aload_n C dX4_price_12 rfl 13 rfl ?_
    refine g_iload_n C dX4_price_13 rfl 14 rfl ?_
    obtain ⟨v1, hv1, hR⟩ := opt_b hR
    refine g_callI C (rn_V C (k_X4_no l g b S (f_X4_bound p0 0 9) N_ v1 hv1) (cwV 1 C.1.2.2.2.2 (gdV wl_111 wl_108 wl_109 wl_110 wl_5) rfl rfl rfl hd_X4_no ⟨Nat.le_of_ble_eq_true rfl, Nat.le_of_ble_eq_true rfl⟩) 0 rfl rfl _ rg_C rg_n rfl rfl (Nat.le_of_ble_eq_true rfl) ⟨Nat.zero_le _, Nat.zero_le _⟩ dX4_price_14) (wM g b v1.2) (rg_put (wM_len.trans wM_len.symm)) (rg_len (wM_len.trans wM_len.symm)) 17 rfl ?_
    obtain rfl := Option.some.inj hR
    exact g_iret C hr hlocks hA (by first | (dsimp only; done) | rfl) (by first | (dsimp only; done) | rfl) dX4_price_17
