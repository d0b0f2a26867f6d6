theorem hd_X4_person : yX4_person.cls = RX4 ∧ yX4_person.cls ≠ "java/lang/invoke/MethodHandle" ∧ yX4_person.cls ≠ "java/lang/invoke/VarHandle" ∧ (parseMethodDescriptor yX4_person.desc).map (fun d => d.parameters.length) = some 1 := by decide +kernel
def f_X4_person (S : (Nat → Nat → Int32) × (Nat → Nat → Int64)) (p0 : Int32) (N_ : Nat) : Option (Int32 × ((Nat → Nat → Int32) × (Nat → Nat → Int64))) :=
  if (b2i (f_X4_isIn p0 0 4)) = 0 then
    (f_X4_no S (-2) N_).bind fun v2 =>
    some (v2.1, v2.2)
  else
    if (S.1 0 3) = 4 then
      (f_X4_no S (-6) N_).bind fun v1 =>
      some (v1.1, v1.2)
    else
      if (S.1 0 3) < 0 ∨ 4 ≤ (Int32.toNatClampNeg (S.1 0 3)) then none else
      some (((S.1 0 3) + 1), ((kS (kS S.1 0 (upd (S.1 0) 3 ((S.1 0 3) + 1))) 9 (upd (S.1 9) (Int32.toNatClampNeg (S.1 0 3)) p0)), S.2))
set_option maxRecDepth 100000 in
set_option maxHeartbeats 4000000 in
theorem k_X4_person (l : Launch) (g : gE) (b : Nat → Nat) (S : (Nat → Nat → Int32) × (Nat → Nat → Int64)) (p0 : Int32) (N_ : Nat) (R_ : Int32 × ((Nat → Nat → Int32) × (Nat → Nat → Int64))) (hR : f_X4_person S p0 N_ = some R_) : FnI l g yX4_person wA_X4_person { frames := 1, cells := 0, slots := 0, locals := 22 } [.ref (b 0), .int p0] (wM g b S) R_.1 (wM g b R_.2) := by
  refine fEntry (As := [.ref (b 0), .int p0]) (maxL := 3) (ret := (some .int)) (by decide) rfl [some (.ref (b 0)), some (.int p0), none] (Nat.le_of_ble_eq_true rfl) (lvInB.to (lvInB.sm (lvInB.sm (lvInB.nn lvInB.nil)))) ?_
  intro p e s m below meth c A C hr hlocks hname hA
  have C : Cx p s m _ c g A cX4_person 3 wA_X4_person RX4 := C
  rw [f_X4_person] at hR
  refine g_iload_n C dX4_person_0 rfl 1 rfl ?_
  refine g_iconst C dX4_person_1 0 ic_0 2 rfl ?_
  refine g_iconst C dX4_person_2 4 ic_4 3 rfl ?_
  refine g_callIR C (rn_S C (k_X4_isIn l g p0 0 4) (va_cwS 3 C.1.2.2.2.2 (gdS wl_232 wl_230 wl_231 wl_5) rfl rfl rfl hd_X4_isIn.2 ⟨Nat.le_of_ble_eq_true rfl, Nat.le_of_ble_eq_true rfl⟩) [] rfl rfl rfl rfl (Nat.le_of_ble_eq_true rfl) ⟨Nat.zero_le _, Nat.zero_le _⟩ dX4_person_3) 6 rfl ?_
  refine g_if_ne C dX4_person_6 hR 14 9 (by decide) rfl (fun c_6 hR => ?_) (fun c_6 hR => ?_)
  · refine g_aload_n C dX4_person_14 rfl 15 rfl ?_
    refine g_get (v := .int (S.1 0 3)) C (hiC hiA_4) 0 rfl rfl 12 (by decide) (List.mem_cons_of_mem _ wl_242) rfl rfl dX4_person_15 18 rfl ?_
    refine g_iconst C dX4_person_18 4 ic_4 19 rfl ?_
    refine g_icmp_ne C dX4_person_19 hR 27 22 (by decide) rfl (fun c_19 hR => ?_) (fun c_19 hR => ?_)
    · refine g_iconst C dX4_person_27 0 ic_0 28 rfl ?_
      refine g_istore_n C dX4_person_28 [_, _, _] (Nat.le_of_ble_eq_true rfl) rfl rfl 29 rfl ?_
      refine g_iload_n C dX4_person_29 rfl 30 rfl ?_
      refine g_if_eqT C dX4_person_30 (by decide) 39 (by decide) ?_
      refine g_aload_n C dX4_person_39 rfl 40 rfl ?_
      refine g_get (v := .ref (b 9)) C (hiC hiA_4) 0 rfl rfl 8 (by decide) (List.mem_cons_of_mem _ wl_74) rfl rfl dX4_person_40 43 rfl ?_
      refine g_aload_n C dX4_person_43 rfl 44 rfl ?_
      refine g_get (v := .int (S.1 0 3)) C (hiC hiA_4) 0 rfl rfl 12 (by decide) (List.mem_cons_of_mem _ wl_242) rfl rfl dX4_person_44 47 rfl ?_
      refine g_iload_n C dX4_person_47 rfl 48 rfl ?_
      obtain ⟨h_48, hR⟩ := opt_n hR
      refine g_iast (f := (S.1 9)) C 9 rfl h_48 dX4_person_48 (wMr g b (S.1 0 0) (S.1 0 1) (S.1 0 2) (S.1 0 3) (S.1 0 4) (S.1 0 5) (S.1 0 6) (S.1 0 7) (S.1 0 8) (S.1 0 9) (S.1 0 10) (S.1 0 11) (S.1 0 12) (S.1 0 13) (S.1 0 14) (S.1 1) (S.1 2) (S.1 3) (S.1 4) (S.1 5) (S.1 6) (S.1 7) (S.1 8) (upd (S.1 9) (Int32.toNatClampNeg (S.1 0 3)) p0) (S.1 10) (S.1 11) (S.1 12) (S.1 13) (S.1 14) (S.1 15) (S.1 16) (S.2 0) (S.2 1) (S.2 2)) rfl 49 rfl ?_
      refine g_aload_n C dX4_person_49 rfl 50 rfl ?_
      refine g_dup C dX4_person_50 rfl 51 rfl ?_
      refine g_get (v := .int (S.1 0 3)) C (hiC hiA_4) 0 rfl rfl 12 (by decide) (List.mem_cons_of_mem _ wl_242) rfl rfl dX4_person_51 54 rfl ?_
      refine g_iconst C dX4_person_54 1 ic_1 55 rfl ?_
      refine g_iadd C dX4_person_55 56 rfl ?_
      refine g_put C (hiC hiA_4) tyX4 tyX4_ok nmX4 0 rfl rfl 12 (by decide) (List.mem_cons_of_mem _ wl_242) rfl rfl rfl rfl (Nat.le_of_ble_eq_true rfl) dX4_person_56 (wMr g b (S.1 0 0) (S.1 0 1) (S.1 0 2) ((S.1 0 3) + 1) (S.1 0 4) (S.1 0 5) (S.1 0 6) (S.1 0 7) (S.1 0 8) (S.1 0 9) (S.1 0 10) (S.1 0 11) (S.1 0 12) (S.1 0 13) (S.1 0 14) (S.1 1) (S.1 2) (S.1 3) (S.1 4) (S.1 5) (S.1 6) (S.1 7) (S.1 8) (upd (S.1 9) (Int32.toNatClampNeg (S.1 0 3)) p0) (S.1 10) (S.1 11) (S.1 12) (S.1 13) (S.1 14) (S.1 15) (S.1 16) (S.2 0) (S.2 1) (S.2 2)) rfl 59 rfl ?_
      refine g_aload_n C dX4_person_59 rfl 60 rfl ?_
      refine g_get (v := .int ((S.1 0 3) + 1)) C (hiC hiA_4) 0 rfl rfl 12 (by decide) (List.mem_cons_of_mem _ wl_242) rfl rfl dX4_person_60 63 rfl ?_
      obtain rfl := Option.some.inj hR
      exact g_iret C hr hlocks hA (by first | (dsimp only; done) | rfl) (by first | (dsimp only; done) | rfl) dX4_person_63
    · refine g_bipush C dX4_person_22 (-6) bp_m6 24 rfl ?_
      refine g_goto C dX4_person_24 28 (by decide) ?_
      refine g_istore_n C dX4_person_28 [_, _, _] (Nat.le_of_ble_eq_true rfl) rfl rfl 29 rfl ?_
      refine g_iload_n C dX4_person_29 rfl 30 rfl ?_
      refine g_if_eqF C dX4_person_30 (by decide) 39 33 (by decide) rfl ?_
      refine g_aload_n C dX4_person_33 rfl 34 rfl ?_
      refine g_iload_n C dX4_person_34 rfl 35 rfl ?_
      obtain ⟨v1, hv1, hR⟩ := opt_b hR
      refine g_callI C (rn_V C (k_X4_no l g b S (-6) N_ v1 hv1) (cwV 1 C.1.2.2.2.2 (gdV wl_111 wl_108 wl_109 wl_110 wl_5) rfl rfl rfl hd_X4_no ⟨Nat.le_of_ble_eq_true rfl, Nat.le_of_ble_eq_true rfl⟩) 0 rfl rfl _ rg_C rg_n rfl rfl (Nat.le_of_ble_eq_true rfl) ⟨Nat.zero_le _, Nat.zero_le _⟩ dX4_person_35) (wM g b v1.2) (rg_put (wM_len.trans wM_len.symm)) (rg_len (wM_len.trans wM_len.symm)) 38 rfl ?_
      obtain rfl := Option.some.inj hR
      exact g_iret C hr hlocks hA (by first | (dsimp only; done) | rfl) (by first | (dsimp only; done) | rfl) dX4_person_38
  · refine g_bipush C dX4_person_9 (-2) bp_m2 11 rfl ?_
    refine g_goto C dX4_person_11 28 (by decide) ?_
    refine g_istore_n C dX4_person_28 [_, _, _] (Nat.le_of_ble_eq_true rfl) rfl rfl 29 rfl ?_
    refine g_iload_n C dX4_person_29 rfl 30 rfl ?_
    refine g_if_eqF C dX4_person_30 (by decide) 39 33 (by decide) rfl ?_
    refine g_aload_n C dX4_person_33 rfl 34 rfl ?_
    refine g_iload_n C dX4_person_34 rfl 35 rfl ?_
    obtain ⟨v2, hv2, hR⟩ := opt_b hR
    refine g_callI C (rn_V C (k_X4_no l g b S (-2) N_ v2 hv2) (cwV 1 C.1.2.2.2.2 (gdV wl_111 wl_108 wl_109 wl_110 wl_5) rfl rfl rfl hd_X4_no ⟨Nat.le_of_ble_eq_true rfl, Nat.le_of_ble_eq_true rfl⟩) 0 rfl rfl _ rg_C rg_n rfl rfl (Nat.le_of_ble_eq_true rfl) ⟨Nat.zero_le _, Nat.zero_le _⟩ dX4_person_35) (wM g b v2.2) (rg_put (wM_len.trans wM_len.symm)) (rg_len (wM_len.trans wM_len.symm)) 38 rfl ?_
    obtain rfl := Option.some.inj hR
    exact g_iret C hr hlocks hA (by first | (dsimp only; done) | rfl) (by first | (dsimp only; done) | rfl) dX4_person_38
theorem hd_X4_nobody : yX4_nobody.cls = RX4 ∧ yX4_nobody.cls ≠ "java/lang/invoke/MethodHandle" ∧ yX4_nobody.cls ≠ "java/lang/invoke/VarHandle" ∧ (parseMethodDescriptor yX4_nobody.desc).map (fun d => d.parameters.length) = some 0 := by decide +kernel
def f_X4_nobody (S : (Nat → Nat → Int32) × (Nat → Nat → Int64)) : Int32 × ((Nat → Nat → Int32) × (Nat → Nat → Int64)) :=
  ((S.1 0 3), ((kS S.1 0 (upd (S.1 0) 3 0)), S.2))
set_option maxRecDepth 100000 in
set_option maxHeartbeats 4000000 in
theorem k_X4_nobody (l : Launch) (g : gE) (b : Nat → Nat) (S : (Nat → Nat → Int32) × (Nat → Nat → Int64)) : FnI l g yX4_nobody wA_X4_nobody { frames := 0, cells := 0, slots := 0, locals := 0 } [.ref (b 0)] (wM g b S) ((f_X4_nobody S).1) (wM g b ((f_X4_nobody S).2)) := by
  generalize hR : f_X4_nobody S = R_
  refine fEntry (As := [.ref (b 0)]) (maxL := 2) (ret := (some .int)) (by decide) rfl [some (.ref (b 0)), none] (Nat.le_of_ble_eq_true rfl) (lvInB.to (lvInB.sm (lvInB.nn lvInB.nil))) ?_
  intro p e s m below meth c A C hr hlocks hname hA
  have C : Cx p s m _ c g A cX4_nobody 2 wA_X4_nobody RX4 := C
  rw [f_X4_nobody] at hR
  refine g_aload_n C dX4_nobody_0 rfl 1 rfl ?_
  refine g_get (v := .int (S.1 0 3)) C (hiC hiA_4) 0 rfl rfl 12 (by decide) (List.mem_cons_of_mem _ wl_242) rfl rfl dX4_nobody_1 4 rfl ?_
  refine g_istore_n C dX4_nobody_4 [_, _] (Nat.le_of_ble_eq_true rfl) rfl rfl 5 rfl ?_
  refine g_aload_n C dX4_nobody_5 rfl 6 rfl ?_
  refine g_iconst C dX4_nobody_6 0 ic_0 7 rfl ?_
  refine g_put C (hiC hiA_4) tyX4 tyX4_ok nmX4 0 rfl rfl 12 (by decide) (List.mem_cons_of_mem _ wl_242) rfl rfl rfl rfl (Nat.le_of_ble_eq_true rfl) dX4_nobody_7 (wMr g b (S.1 0 0) (S.1 0 1) (S.1 0 2) 0 (S.1 0 4) (S.1 0 5) (S.1 0 6) (S.1 0 7) (S.1 0 8) (S.1 0 9) (S.1 0 10) (S.1 0 11) (S.1 0 12) (S.1 0 13) (S.1 0 14) (S.1 1) (S.1 2) (S.1 3) (S.1 4) (S.1 5) (S.1 6) (S.1 7) (S.1 8) (S.1 9) (S.1 10) (S.1 11) (S.1 12) (S.1 13) (S.1 14) (S.1 15) (S.1 16) (S.2 0) (S.2 1) (S.2 2)) rfl 10 rfl ?_
  refine g_iload_n C dX4_nobody_10 rfl 11 rfl ?_
  subst hR
  exact g_iret C hr hlocks hA (by first | (dsimp only; done) | rfl) (by first | (dsimp only; done) | rfl) dX4_nobody_11
theorem hd_X4_personOff : yX4_personOff.cls = RX4 ∧ yX4_personOff.cls ≠ "java/lang/invoke/MethodHandle" ∧ yX4_personOff.cls ≠ "java/lang/invoke/VarHandle" ∧ (parseMethodDescriptor yX4_personOff.desc).map (fun d => d.parameters.length) = some 2 := by decide +kernel
def f_X4_personOff (S : (Nat → Nat → Int32) × (Nat → Nat → Int64)) (p0 : Int32) (p1 : Int32) (N_ : Nat) : Option (Int32) :=
  (f_X4_saysOff S 0 p1 N_).bind fun v1 =>
  if p0 < 0 ∨ 4 ≤ (Int32.toNatClampNeg p0) then none else
  if ((S.1 9) (Int32.toNatClampNeg p0)) = 1 then
    some 0
  else
    if ((S.1 9) (Int32.toNatClampNeg p0)) = 2 then
      some 10
    else
      if ((S.1 9) (Int32.toNatClampNeg p0)) = 3 then
        some (f_X4_held (v1 - 3))
      else
        if ((S.1 9) (Int32.toNatClampNeg p0)) = 4 then
          some (f_X4_held (v1 + 3))
        else
          some v1
set_option maxRecDepth 100000 in
set_option maxHeartbeats 4000000 in
theorem k_X4_personOff (l : Launch) (g : gE) (b : Nat → Nat) (S : (Nat → Nat → Int32) × (Nat → Nat → Int64)) (p0 : Int32) (p1 : Int32) (N_ : Nat) (R_ : Int32) (hR : f_X4_personOff S p0 p1 N_ = some R_) : FnI l g yX4_personOff wA_X4_personOff { frames := 2, cells := 0, slots := 0, locals := 45 } [.ref (b 0), .int p0, .int p1] (wM g b S) R_ (wM g b S) := by
  refine fEntry (As := [.ref (b 0), .int p0, .int p1]) (maxL := 4) (ret := (some .int)) (by decide) rfl [some (.ref (b 0)), some (.int p0), some (.int p1), none] (Nat.le_of_ble_eq_true rfl) (lvInB.to (lvInB.sm (lvInB.sm (lvInB.sm (lvInB.nn lvInB.nil))))) ?_
  intro p e s m below meth c A C hr hlocks hname hA
  have C : Cx p s m _ c g A cX4_personOff 4 wA_X4_personOff RX4 := C
  rw [f_X4_personOff] at hR
  refine g_aload_n C dX4_personOff_0 rfl 1 rfl ?_
  refine g_iconst C dX4_personOff_1 0 ic_0 2 rfl ?_
  refine g_iload_n C dX4_personOff_2 rfl 3 rfl ?_
  obtain ⟨v1, hv1, hR⟩ := opt_b hR
  refine g_callIR C (rn_V C (k_X4_saysOff l g b S 0 p1 N_ v1 hv1) (cwV 2 C.1.2.2.2.2 (gdV wl_439 wl_436 wl_437 wl_438 wl_5) rfl rfl rfl hd_X4_saysOff ⟨Nat.le_of_ble_eq_true rfl, Nat.le_of_ble_eq_true rfl⟩) 0 rfl rfl _ rg_C rg_n rfl rfl (Nat.le_of_ble_eq_true rfl) ⟨Nat.zero_le _, Nat.zero_le _⟩ dX4_personOff_3) 6 rfl ?_
  refine g_istore_n C dX4_personOff_6 [_, _, _, _] (Nat.le_of_ble_eq_true rfl) rfl rfl 7 rfl ?_
  refine g_aload_n C dX4_personOff_7 rfl 8 rfl ?_
  refine g_get (v := .ref (b 9)) C (hiC hiA_4) 0 rfl rfl 8 (by decide) (List.mem_cons_of_mem _ wl_74) rfl rfl dX4_personOff_8 11 rfl ?_
  refine g_iload_n C dX4_personOff_11 rfl 12 rfl ?_
  obtain ⟨h_12, hR⟩ := opt_n hR
  refine g_iald (f := (S.1 9)) C 9 rfl h_12 dX4_personOff_12 13 rfl ?_
  rcases Decidable.em (((S.1 9) (Int32.toNatClampNeg p0)) = 1) with c_13_1 | c_13_1
  · have hR := (if_pos c_13_1).symm.trans hR
    refine g_tableIn C dX4_personOff_13 1 c_13_1 (31) 44 (by decide) ?_
    refine g_iconst C dX4_personOff_44 0 ic_0 45 rfl ?_
    obtain rfl := Option.some.inj hR
    exact g_iret C hr hlocks hA (by first | (dsimp only; done) | rfl) (by first | (dsimp only; done) | rfl) dX4_personOff_45
  · have hR := (if_neg c_13_1).symm.trans hR
    rcases Decidable.em (((S.1 9) (Int32.toNatClampNeg p0)) = 2) with c_13_2 | c_13_2
    · have hR := (if_pos c_13_2).symm.trans hR
      refine g_tableIn C dX4_personOff_13 2 c_13_2 (33) 46 (by decide) ?_
      refine g_bipush C dX4_personOff_46 10 bp_10 48 rfl ?_
      obtain rfl := Option.some.inj hR
      exact g_iret C hr hlocks hA (by first | (dsimp only; done) | rfl) (by first | (dsimp only; done) | rfl) dX4_personOff_48
    · have hR := (if_neg c_13_2).symm.trans hR
      rcases Decidable.em (((S.1 9) (Int32.toNatClampNeg p0)) = 3) with c_13_3 | c_13_3
      · have hR := (if_pos c_13_3).symm.trans hR
        refine g_tableIn C dX4_personOff_13 3 c_13_3 (36) 49 (by decide) ?_
        refine g_iload_n C dX4_personOff_49 rfl 50 rfl ?_
        refine g_iconst C dX4_personOff_50 3 ic_3 51 rfl ?_
        refine g_isub C dX4_personOff_51 52 rfl ?_
        refine g_callIR C (rn_S C (k_X4_held l g (v1 - 3)) (va_cwS 1 C.1.2.2.2.2 (gdS wl_445 wl_443 wl_444 wl_5) rfl rfl rfl hd_X4_held.2 ⟨Nat.le_of_ble_eq_true rfl, Nat.le_of_ble_eq_true rfl⟩) [] rfl rfl rfl rfl (Nat.le_of_ble_eq_true rfl) ⟨Nat.zero_le _, Nat.zero_le _⟩ dX4_personOff_52) 55 rfl ?_
        obtain rfl := Option.some.inj hR
        exact g_iret C hr hlocks hA (by first | (dsimp only; done) | rfl) (by first | (dsimp only; done) | rfl) dX4_personOff_55
      · have hR := (if_neg c_13_3).symm.trans hR
        rcases Decidable.em (((S.1 9) (Int32.toNatClampNeg p0)) = 4) with c_13_4 | c_13_4
        · have hR := (if_pos c_13_4).symm.trans hR
          refine g_tableIn C dX4_personOff_13 4 c_13_4 (43) 56 (by decide) ?_
          refine g_iload_n C dX4_personOff_56 rfl 57 rfl ?_
          refine g_iconst C dX4_personOff_57 3 ic_3 58 rfl ?_
          refine g_iadd C dX4_personOff_58 59 rfl ?_
          refine g_callIR C (rn_S C (k_X4_held l g (v1 + 3)) (va_cwS 1 C.1.2.2.2.2 (gdS wl_445 wl_443 wl_444 wl_5) rfl rfl rfl hd_X4_held.2 ⟨Nat.le_of_ble_eq_true rfl, Nat.le_of_ble_eq_true rfl⟩) [] rfl rfl rfl rfl (Nat.le_of_ble_eq_true rfl) ⟨Nat.zero_le _, Nat.zero_le _⟩ dX4_personOff_59) 62 rfl ?_
          obtain rfl := Option.some.inj hR
          exact g_iret C hr hlocks hA (by first | (dsimp only; done) | rfl) (by first | (dsimp only; done) | rfl) dX4_personOff_62
        · have hR := (if_neg c_13_4).symm.trans hR
          refine g_tableD C dX4_personOff_13 [1, 2, 3, 4] (ne_c c_13_1 (ne_c c_13_2 (ne_c c_13_3 (ne_c c_13_4 ne_n)))) (by decide +kernel) (by decide +kernel) 63 (by decide) ?_
          refine g_iload_n C dX4_personOff_63 rfl 64 rfl ?_
          obtain rfl := Option.some.inj hR
          exact g_iret C hr hlocks hA (by first | (dsimp only; done) | rfl) (by first | (dsimp only; done) | rfl) dX4_personOff_64
theorem hd_X4_said : yX4_said.cls = RX4 ∧ yX4_said.cls ≠ "java/lang/invoke/MethodHandle" ∧ yX4_said.cls ≠ "java/lang/invoke/VarHandle" ∧ (parseMethodDescriptor yX4_said.desc).map (fun d => d.parameters.length) = some 3 := by decide +kernel
def f_X4_said_L103 (x1 : Int32) (x7 : Int32) (N_ : Nat) : Nat → Int32 → ((Nat → Nat → Int32) × (Nat → Nat → Int64)) → Option (Int32 × ((Nat → Nat → Int32) × (Nat → Nat → Int64)))
  | 0, _, _ => none
  | n_ + 1, x8, S =>
    if (S.1 0 3) ≤ x8 then
      some (x8, S)
    else
      if x7 < 0 ∨ 5 ≤ (Int32.toNatClampNeg x7) then none else
      if ((x1 >>> (x8 &&& 31)) &&& 1) = 1 then
        (f_X4_personOff S x8 x7 N_).bind fun v10 =>
        if x7 < 0 ∨ 5 ≤ (Int32.toNatClampNeg x7) then none else
        f_X4_said_L103 x1 x7 N_ n_ (x8 + 1) (S.1, (kLS S.2 1 (vp_updL (S.2 1) (Int32.toNatClampNeg x7) (((S.2 1) (Int32.toNatClampNeg x7)) * (Int32.toInt64 v10)))))
      else
        (f_X4_personOff S x8 x7 N_).bind fun v9 =>
        if x7 < 0 ∨ 5 ≤ (Int32.toNatClampNeg x7) then none else
        f_X4_said_L103 x1 x7 N_ n_ (x8 + 1) (S.1, (kLS S.2 1 (vp_updL (S.2 1) (Int32.toNatClampNeg x7) (((S.2 1) (Int32.toNatClampNeg x7)) * (Int32.toInt64 (10 - v9))))))
set_option maxRecDepth 100000 in
set_option maxHeartbeats 4000000 in
theorem k_X4_said_L103 (l : Launch) (g : gE) {p : Program} {e : Env} {s : State} {m : MethodId} {args : Array Value} {below : List Frame} {meth : Method} {c : Code} {Q : State → Prop} {A : Nat → Prop} {b : Nat → Nat}  (C : Cx p s m args c g A cX4_said 9 wA_X4_said RX4) (N_ : Nat) (x1 : Int32) (x2 : Int32) (x3 : Int32) (x4 : Int32) (x5 : Int64) (x7 : Int32) : ∀ (n_ : Nat) (x8 : Int32) (S : (Nat → Nat → Int32) × (Nat → Nat → Int64)) (rv_ : Int32 × ((Nat → Nat → Int32) × (Nat → Nat → Int64))), f_X4_said_L103 x1 x7 N_ n_ x8 S = some rv_ → (Gm p l e (headSpec wA_X4_said ({ frames := 3, cells := 0, slots := 0, locals := 68 } : Room)).room s m args below meth c Q g A 9 0 0 (wM g b rv_.2) [some (.ref (b 0)), some (.int x1), some (.int x2), some (.int x3), some (.int x4), some (.long x5), none, some (.int x7), some (.int rv_.1)] [] 162) → Gm p l e (headSpec wA_X4_said ({ frames := 3, cells := 0, slots := 0, locals := 68 } : Room)).room s m args below meth c Q g A 9 0 0 (wM g b S) [some (.ref (b 0)), some (.int x1), some (.int x2), some (.int x3), some (.int x4), some (.long x5), none, some (.int x7), some (.int x8)] [] 103 := by
  intro n_
  induction n_ with
  | zero =>
    intro x8 S rv_ hR
    simp [f_X4_said_L103] at hR
  | succ n_ ih =>
    intro x8 S rv_ hR hk
    rw [f_X4_said_L103] at hR
    refine g_iload C dX4_said_103 rfl 105 rfl ?_
    refine g_aload_n C dX4_said_105 rfl 106 rfl ?_
    refine g_get (v := .int (S.1 0 3)) C (hiC hiA_4) 0 rfl rfl 12 (by decide) (List.mem_cons_of_mem _ wl_242) rfl rfl dX4_said_106 109 rfl ?_
    refine g_icmp_ge C dX4_said_109 hR 162 112 (by decide) rfl (fun c_109 hR => ?_) (fun c_109 hR => ?_)
    · obtain rfl := Option.some.inj hR
      refine g_lv [some (.ref (b 0)), some (.int x1), some (.int x2), some (.int x3), some (.int x4), some (.long x5), none, some (.int x7), some (.int x8)] (lvLe.sm (lvLe.sm (lvLe.sm (lvLe.sm (lvLe.sm (lvLe.sm (lvLe.nn (lvLe.sm (lvLe.sm lvLe.nil))))))))) ?_
      exact hk
    · refine g_aload_n C dX4_said_112 rfl 113 rfl ?_
      refine g_get (v := .ref (b 18)) C (hiC hiA_4) 0 rfl rfl 26 (by decide) (List.mem_cons_of_mem _ wl_81) rfl rfl dX4_said_113 116 rfl ?_
      refine g_iload C dX4_said_116 rfl 118 rfl ?_
      refine g_dup2 C dX4_said_118 rfl rfl 119 rfl ?_
      obtain ⟨h_119, hR⟩ := opt_n hR
      refine g_lald (f := (S.2 1)) C 18 rfl h_119 dX4_said_119 120 rfl ?_
      refine g_iload_n C dX4_said_120 rfl 121 rfl ?_
      refine g_iload C dX4_said_121 rfl 123 rfl ?_
      refine g_ishr C dX4_said_123 124 rfl ?_
      refine g_iconst C dX4_said_124 1 ic_1 125 rfl ?_
      refine g_iand C dX4_said_125 126 rfl ?_
      refine g_iconst C dX4_said_126 1 ic_1 127 rfl ?_
      refine g_icmp_ne C dX4_said_127 hR 142 130 (by decide) rfl (fun c_127 hR => ?_) (fun c_127 hR => ?_)
      · refine g_bipush C dX4_said_142 10 bp_10 144 rfl ?_
        refine g_aload_n C dX4_said_144 rfl 145 rfl ?_
        refine g_iload C dX4_said_145 rfl 147 rfl ?_
        refine g_iload C dX4_said_147 rfl 149 rfl ?_
        obtain ⟨v9, hv9, hR⟩ := opt_b hR
        refine g_callIR C (rn_V C (k_X4_personOff l g b S x8 x7 N_ v9 hv9) (cwV 2 C.1.2.2.2.2 (gdV wl_751 wl_748 wl_749 wl_750 wl_5) rfl rfl rfl hd_X4_personOff ⟨Nat.le_of_ble_eq_true rfl, Nat.le_of_ble_eq_true rfl⟩) 0 rfl rfl _ rg_C rg_n rfl rfl (Nat.le_of_ble_eq_true rfl) ⟨Nat.zero_le _, Nat.zero_le _⟩ dX4_said_149) 152 rfl ?_
        refine g_isub C dX4_said_152 153 rfl ?_
        refine g_i2l C dX4_said_153 154 rfl ?_
        refine g_lmul C dX4_said_154 155 rfl ?_
        obtain ⟨h_155, hR⟩ := opt_n hR
        refine g_last (f := (S.2 1)) C 18 rfl h_155 dX4_said_155 (wMr g b (S.1 0 0) (S.1 0 1) (S.1 0 2) (S.1 0 3) (S.1 0 4) (S.1 0 5) (S.1 0 6) (S.1 0 7) (S.1 0 8) (S.1 0 9) (S.1 0 10) (S.1 0 11) (S.1 0 12) (S.1 0 13) (S.1 0 14) (S.1 1) (S.1 2) (S.1 3) (S.1 4) (S.1 5) (S.1 6) (S.1 7) (S.1 8) (S.1 9) (S.1 10) (S.1 11) (S.1 12) (S.1 13) (S.1 14) (S.1 15) (S.1 16) (S.2 0) (vp_updL (S.2 1) (Int32.toNatClampNeg x7) (((S.2 1) (Int32.toNatClampNeg x7)) * (Int32.toInt64 (10 - v9)))) (S.2 2)) rfl 156 rfl ?_
        refine g_iinc C dX4_said_156 rfl 1 ic_1 [_, _, _, _, _, _, _, _, _] (Nat.le_of_ble_eq_true rfl) rfl rfl 159 rfl ?_
        refine g_goto C dX4_said_159 103 (by decide) ?_
        refine g_lv [some (.ref (b 0)), some (.int x1), some (.int x2), some (.int x3), some (.int x4), some (.long x5), none, some (.int x7), some (.int (x8 + 1))] (lvLe.sm (lvLe.sm (lvLe.sm (lvLe.sm (lvLe.sm (lvLe.sm (lvLe.nn (lvLe.sm (lvLe.sm lvLe.nil))))))))) ?_
        exact ih _ _ rv_ hR hk
      · refine g_aload_n C dX4_said_130 rfl 131 rfl ?_
        refine g_iload C dX4_said_131 rfl 133 rfl ?_
        refine g_iload C dX4_said_133 rfl 135 rfl ?_
        obtain ⟨v10, hv10, hR⟩ := opt_b hR
        refine g_callIR C (rn_V C (k_X4_personOff l g b S x8 x7 N_ v10 hv10) (cwV 2 C.1.2.2.2.2 (gdV wl_751 wl_748 wl_749 wl_750 wl_5) rfl rfl rfl hd_X4_personOff ⟨Nat.le_of_ble_eq_true rfl, Nat.le_of_ble_eq_true rfl⟩) 0 rfl rfl _ rg_C rg_n rfl rfl (Nat.le_of_ble_eq_true rfl) ⟨Nat.zero_le _, Nat.zero_le _⟩ dX4_said_135) 138 rfl ?_
        refine g_i2l C dX4_said_138 139 rfl ?_
        refine g_goto C dX4_said_139 154 (by decide) ?_
        refine g_lmul C dX4_said_154 155 rfl ?_
        obtain ⟨h_155, hR⟩ := opt_n hR
        refine g_last (f := (S.2 1)) C 18 rfl h_155 dX4_said_155 (wMr g b (S.1 0 0) (S.1 0 1) (S.1 0 2) (S.1 0 3) (S.1 0 4) (S.1 0 5) (S.1 0 6) (S.1 0 7) (S.1 0 8) (S.1 0 9) (S.1 0 10) (S.1 0 11) (S.1 0 12) (S.1 0 13) (S.1 0 14) (S.1 1) (S.1 2) (S.1 3) (S.1 4) (S.1 5) (S.1 6) (S.1 7) (S.1 8) (S.1 9) (S.1 10) (S.1 11) (S.1 12) (S.1 13) (S.1 14) (S.1 15) (S.1 16) (S.2 0) (vp_updL (S.2 1) (Int32.toNatClampNeg x7) (((S.2 1) (Int32.toNatClampNeg x7)) * (Int32.toInt64 v10))) (S.2 2)) rfl 156 rfl ?_
        refine g_iinc C dX4_said_156 rfl 1 ic_1 [_, _, _, _, _, _, _, _, _] (Nat.le_of_ble_eq_true rfl) rfl rfl 159 rfl ?_
        refine g_goto C dX4_said_159 103 (by decide) ?_
        refine g_lv [some (.ref (b 0)), some (.int x1), some (.int x2), some (.int x3), some (.int x4), some (.long x5), none, some (.int x7), some (.int (x8 + 1))] (lvLe.sm (lvLe.sm (lvLe.sm (lvLe.sm (lvLe.sm (lvLe.sm (lvLe.nn (lvLe.sm (lvLe.sm lvLe.nil))))))))) ?_
        exact ih _ _ rv_ hR hk
def f_X4_said_L80 (x1 : Int32) (N_ : Nat) : Nat → Int32 → ((Nat → Nat → Int32) × (Nat → Nat → Int64)) → Option (Int32 × ((Nat → Nat → Int32) × (Nat → Nat → Int64)))
  | 0, _, _ => none
  | n_ + 1, x7, S =>
    if 5 ≤ x7 then
      some (x7, S)
    else
      if x7 < 0 ∨ 5 ≤ (Int32.toNatClampNeg x7) then none else
      if x7 < 0 ∨ 5 ≤ (Int32.toNatClampNeg x7) then none else
      (f_X4_said_L103 x1 x7 N_ N_ 0 (S.1, (kLS S.2 1 (vp_updL (S.2 1) (Int32.toNatClampNeg x7) ((S.2 0) (Int32.toNatClampNeg x7)))))).bind fun v13 =>
      f_X4_said_L80 x1 N_ n_ (x7 + 1) v13.2
set_option maxRecDepth 100000 in
set_option maxHeartbeats 4000000 in
theorem k_X4_said_L80 (l : Launch) (g : gE) {p : Program} {e : Env} {s : State} {m : MethodId} {args : Array Value} {below : List Frame} {meth : Method} {c : Code} {Q : State → Prop} {A : Nat → Prop} {b : Nat → Nat}  (C : Cx p s m args c g A cX4_said 9 wA_X4_said RX4) (N_ : Nat) (x1 : Int32) (x2 : Int32) (x3 : Int32) (x4 : Int32) (x5 : Int64) : ∀ (n_ : Nat) (x7 : Int32) (S : (Nat → Nat → Int32) × (Nat → Nat → Int64)) (rv_ : Int32 × ((Nat → Nat → Int32) × (Nat → Nat → Int64))), f_X4_said_L80 x1 N_ n_ x7 S = some rv_ → (Gm p l e (headSpec wA_X4_said ({ frames := 3, cells := 0, slots := 0, locals := 68 } : Room)).room s m args below meth c Q g A 9 0 0 (wM g b rv_.2) [some (.ref (b 0)), some (.int x1), some (.int x2), some (.int x3), some (.int x4), some (.long x5), none, some (.int rv_.1), none] [] 168) → Gm p l e (headSpec wA_X4_said ({ frames := 3, cells := 0, slots := 0, locals := 68 } : Room)).room s m args below meth c Q g A 9 0 0 (wM g b S) [some (.ref (b 0)), some (.int x1), some (.int x2), some (.int x3), some (.int x4), some (.long x5), none, some (.int x7), none] [] 80 := by
  intro n_
  induction n_ with
  | zero =>
    intro x7 S rv_ hR
    simp [f_X4_said_L80] at hR
  | succ n_ ih =>
    intro x7 S rv_ hR hk
    rw [f_X4_said_L80] at hR
    refine g_iload C dX4_said_80 rfl 82 rfl ?_
    refine g_iconst C dX4_said_82 5 ic_5 83 rfl ?_
    refine g_icmp_ge C dX4_said_83 hR 168 86 (by decide) rfl (fun c_83 hR => ?_) (fun c_83 hR => ?_)
    · obtain rfl := Option.some.inj hR
      refine g_lv [some (.ref (b 0)), some (.int x1), some (.int x2), some (.int x3), some (.int x4), some (.long x5), none, some (.int x7), none] (lvLe.sm (lvLe.sm (lvLe.sm (lvLe.sm (lvLe.sm (lvLe.sm (lvLe.nn (lvLe.sm (lvLe.nn lvLe.nil))))))))) ?_
      exact hk
    · refine g_aload_n C dX4_said_86 rfl 87 rfl ?_
      refine g_get (v := .ref (b 18)) C (hiC hiA_4) 0 rfl rfl 26 (by decide) (List.mem_cons_of_mem _ wl_81) rfl rfl dX4_said_87 90 rfl ?_
      refine g_iload C dX4_said_90 rfl 92 rfl ?_
      refine g_aload_n C dX4_said_92 rfl 93 rfl ?_
      refine g_get (v := .ref (b 17)) C (hiC hiA_4) 0 rfl rfl 25 (by decide) (List.mem_cons_of_mem _ wl_80) rfl rfl dX4_said_93 96 rfl ?_
      refine g_iload C dX4_said_96 rfl 98 rfl ?_
      obtain ⟨h_98, hR⟩ := opt_n hR
      refine g_lald (f := (S.2 0)) C 17 rfl h_98 dX4_said_98 99 rfl ?_
      obtain ⟨h_99, hR⟩ := opt_n hR
      refine g_last (f := (S.2 1)) C 18 rfl h_99 dX4_said_99 (wMr g b (S.1 0 0) (S.1 0 1) (S.1 0 2) (S.1 0 3) (S.1 0 4) (S.1 0 5) (S.1 0 6) (S.1 0 7) (S.1 0 8) (S.1 0 9) (S.1 0 10) (S.1 0 11) (S.1 0 12) (S.1 0 13) (S.1 0 14) (S.1 1) (S.1 2) (S.1 3) (S.1 4) (S.1 5) (S.1 6) (S.1 7) (S.1 8) (S.1 9) (S.1 10) (S.1 11) (S.1 12) (S.1 13) (S.1 14) (S.1 15) (S.1 16) (S.2 0) (vp_updL (S.2 1) (Int32.toNatClampNeg x7) ((S.2 0) (Int32.toNatClampNeg x7))) (S.2 2)) rfl 100 rfl ?_
      refine g_iconst C dX4_said_100 0 ic_0 101 rfl ?_
      refine g_istore C dX4_said_101 [_, _, _, _, _, _, _, _, _] (Nat.le_of_ble_eq_true rfl) rfl rfl 103 rfl ?_
      refine g_lv [some (.ref (b 0)), some (.int x1), some (.int x2), some (.int x3), some (.int x4), some (.long x5), none, some (.int x7), some (.int 0)] (lvLe.sm (lvLe.sm (lvLe.sm (lvLe.sm (lvLe.sm (lvLe.sm (lvLe.nn (lvLe.sm (lvLe.sm lvLe.nil))))))))) ?_
      obtain ⟨v13, hv13, hR⟩ := opt_b hR
      refine k_X4_said_L103 l g C N_ x1 x2 x3 x4 x5 x7 N_ 0 (S.1, (kLS S.2 1 (vp_updL (S.2 1) (Int32.toNatClampNeg x7) ((S.2 0) (Int32.toNatClampNeg x7))))) _ hv13 ?_
      refine g_iinc C dX4_said_162 rfl 1 ic_1 [_, _, _, _, _, _, _, _, _] (Nat.le_of_ble_eq_true rfl) rfl rfl 165 rfl ?_
      refine g_goto C dX4_said_165 80 (by decide) ?_
      refine g_lv [some (.ref (b 0)), some (.int x1), some (.int x2), some (.int x3), some (.int x4), some (.long x5), none, some (.int (x7 + 1)), none] (lvLe.sm (lvLe.sm (lvLe.sm (lvLe.sm (lvLe.sm (lvLe.sm (lvLe.nn (lvLe.sm (lvLe.nn lvLe.nil))))))))) ?_
      exact ih _ _ rv_ hR hk
def f_X4_said_L171 (S : (Nat → Nat → Int32) × (Nat → Nat → Int64)) (N_ : Nat) : Nat → Int64 → Int32 → Option (Int64 × Int32)
  | 0, _, _ => none
  | n_ + 1, x5, x7 =>
    if (S.1 0 3) ≤ x7 then
      some (x5, x7)
    else
      f_X4_said_L171 S N_ n_ (x5 * 10) (x7 + 1)
set_option maxRecDepth 100000 in
set_option maxHeartbeats 4000000 in
theorem k_X4_said_L171 (l : Launch) (g : gE) {p : Program} {e : Env} {s : State} {m : MethodId} {args : Array Value} {below : List Frame} {meth : Method} {c : Code} {Q : State → Prop} {A : Nat → Prop} {b : Nat → Nat}  (C : Cx p s m args c g A cX4_said 9 wA_X4_said RX4) (N_ : Nat) (x1 : Int32) (x2 : Int32) (x3 : Int32) (x4 : Int32) (S : (Nat → Nat → Int32) × (Nat → Nat → Int64)) : ∀ (n_ : Nat) (x5 : Int64) (x7 : Int32) (rv_ : Int64 × Int32), f_X4_said_L171 S N_ n_ x5 x7 = some rv_ → (Gm p l e (headSpec wA_X4_said ({ frames := 3, cells := 0, slots := 0, locals := 68 } : Room)).room s m args below meth c Q g A 9 0 0 (wM g b S) [some (.ref (b 0)), some (.int x1), some (.int x2), some (.int x3), some (.int x4), some (.long rv_.1), none, some (.int rv_.2), none] [] 194) → Gm p l e (headSpec wA_X4_said ({ frames := 3, cells := 0, slots := 0, locals := 68 } : Room)).room s m args below meth c Q g A 9 0 0 (wM g b S) [some (.ref (b 0)), some (.int x1), some (.int x2), some (.int x3), some (.int x4), some (.long x5), none, some (.int x7), none] [] 171 := by
  intro n_
  induction n_ with
  | zero =>
    intro x5 x7 rv_ hR
    simp [f_X4_said_L171] at hR
  | succ n_ ih =>
    intro x5 x7 rv_ hR hk
    rw [f_X4_said_L171] at hR
    refine g_iload C dX4_said_171 rfl 173 rfl ?_
    refine g_aload_n C dX4_said_173 rfl 174 rfl ?_
    refine g_get (v := .int (S.1 0 3)) C (hiC hiA_4) 0 rfl rfl 12 (by decide) (List.mem_cons_of_mem _ wl_242) rfl rfl dX4_said_174 177 rfl ?_
    refine g_icmp_ge C dX4_said_177 hR 194 180 (by decide) rfl (fun c_177 hR => ?_) (fun c_177 hR => ?_)
    · obtain rfl := Option.some.inj hR
      refine g_lv [some (.ref (b 0)), some (.int x1), some (.int x2), some (.int x3), some (.int x4), some (.long x5), none, some (.int x7), none] (lvLe.sm (lvLe.sm (lvLe.sm (lvLe.sm (lvLe.sm (lvLe.sm (lvLe.nn (lvLe.sm (lvLe.nn lvLe.nil))))))))) ?_
      exact hk
    · refine g_lload C dX4_said_180 rfl 182 rfl ?_
      refine g_ldc2 C dX4_said_182 (C.1.2.2.2.2 _ (List.mem_cons_of_mem _ wl_601)) 185 rfl ?_
      refine g_lmul C dX4_said_185 186 rfl ?_
      refine g_lstore C dX4_said_186 [_, _, _, _, _, _, _, _, _] (Nat.le_of_ble_eq_true rfl) rfl rfl 188 rfl ?_
      refine g_iinc C dX4_said_188 rfl 1 ic_1 [_, _, _, _, _, _, _, _, _] (Nat.le_of_ble_eq_true rfl) rfl rfl 191 rfl ?_
      refine g_goto C dX4_said_191 171 (by decide) ?_
      refine g_lv [some (.ref (b 0)), some (.int x1), some (.int x2), some (.int x3), some (.int x4), some (.long (x5 * 10)), none, some (.int (x7 + 1)), none] (lvLe.sm (lvLe.sm (lvLe.sm (lvLe.sm (lvLe.sm (lvLe.sm (lvLe.nn (lvLe.sm (lvLe.nn lvLe.nil))))))))) ?_
      exact ih _ _ rv_ hR hk
def f_X4_said (S : (Nat → Nat → Int32) × (Nat → Nat → Int64)) (p0 : Int32) (p1 : Int32) (p2 : Int32) (N_ : Nat) : Option (Int64 × ((Nat → Nat → Int32) × (Nat → Nat → Int64))) :=
  if p0 < 0 then
    (f_X4_lowest S (-1) N_).bind fun v1 =>
    some (v1.1, v1.2)
  else
    if (p0 >>> ((S.1 0 3) &&& 31)) = 0 then
      if (b2i (f_X4_isIn p1 0 1)) = 0 then
        (f_X4_lowest S (-2) N_).bind fun v2 =>
        some (v2.1, v2.2)
      else
        if (b2i (f_X4_isIn p2 0 1)) = 0 then
          (f_X4_lowest S (-2) N_).bind fun v21 =>
          some (v21.1, v21.2)
        else
          if (S.1 0 0) = 0 then
            (f_X4_lowest S (-3) N_).bind fun v20 =>
            some (v20.1, v20.2)
          else
            (f_X4_findThought S N_).bind fun v3 =>
            (f_X4_allThought v3 N_).bind fun v4 =>
            (f_X4_said_L80 p0 N_ N_ 0 v3).bind fun v14 =>
            (f_X4_said_L171 v14.2 N_ N_ v4 0).bind fun v15 =>
            if p1 = 0 then
              (f_X4_allParts v14.2 N_).bind fun v18 =>
              (f_X4_partOf v18 v15.1 p2 N_).bind fun v19 =>
              some (v19, v14.2)
            else
              (f_X4_allParts v14.2 N_).bind fun v16 =>
              (f_X4_partOf (((v14.2.2 1) (Int32.toNatClampNeg 0)) + ((v14.2.2 1) (Int32.toNatClampNeg 1))) v16 p2 N_).bind fun v17 =>
              some (v17, v14.2)
    else
      (f_X4_lowest S (-1) N_).bind fun v22 =>
      some (v22.1, v22.2)
set_option maxRecDepth 100000 in
set_option maxHeartbeats 4000000 in
theorem k_X4_said (l : Launch) (g : gE) (b : Nat → Nat) (S : (Nat → Nat → Int32) × (Nat → Nat → Int64)) (p0 : Int32) (p1 : Int32) (p2 : Int32) (N_ : Nat) (R_ : Int64 × ((Nat → Nat → Int32) × (Nat → Nat → Int64))) (hR : f_X4_said S p0 p1 p2 N_ = some R_) : FnL l g yX4_said wA_X4_said { frames := 3, cells := 0, slots := 0, locals := 68 } [.ref (b 0), .int p0, .int p1, .int p2] (wM g b S) R_.1 (wM g b R_.2) := by
  refine fEntry (As := [.ref (b 0), .int p0, .int p1, .int p2]) (maxL := 9) (ret := (some .long)) (by decide) rfl [some (.ref (b 0)), some (.int p0), some (.int p1), some (.int p2), none, none, none, none, none] (Nat.le_of_ble_eq_true rfl) (lvInB.to (lvInB.sm (lvInB.sm (lvInB.sm (lvInB.sm (lvInB.nn (lvInB.nn (lvInB.nn (lvInB.nn (lvInB.nn lvInB.nil)))))))))) ?_
  intro p e s m below meth c A C hr hlocks hname hA
  have C : Cx p s m _ c g A cX4_said 9 wA_X4_said RX4 := C
  rw [f_X4_said] at hR
  refine g_iload_n C dX4_said_0 rfl 1 rfl ?_
  refine g_if_lt C dX4_said_1 hR 13 4 (by decide) rfl (fun c_1 hR => ?_) (fun c_1 hR => ?_)
  · refine g_iconst C dX4_said_13 (-1) ic_m1 14 rfl ?_
    refine g_goto C dX4_said_14 53 (by decide) ?_
    refine g_istore C dX4_said_53 [_, _, _, _, _, _, _, _, _] (Nat.le_of_ble_eq_true rfl) rfl rfl 55 rfl ?_
    refine g_iload C dX4_said_55 rfl 57 rfl ?_
    refine g_if_eqF C dX4_said_57 (by decide) 67 60 (by decide) rfl ?_
    refine g_aload_n C dX4_said_60 rfl 61 rfl ?_
    refine g_iload C dX4_said_61 rfl 63 rfl ?_
    obtain ⟨v1, hv1, hR⟩ := opt_b hR
    refine g_callL C (rn_V C (k_X4_lowest l g b S (-1) N_ v1 hv1) (cwV 1 C.1.2.2.2.2 (gdV wl_462 wl_459 wl_460 wl_461 wl_5) rfl rfl rfl hd_X4_lowest ⟨Nat.le_of_ble_eq_true rfl, Nat.le_of_ble_eq_true rfl⟩) 0 rfl rfl _ rg_C rg_n rfl rfl (Nat.le_of_ble_eq_true rfl) ⟨Nat.zero_le _, Nat.zero_le _⟩ dX4_said_63) (wM g b v1.2) (rg_put (wM_len.trans wM_len.symm)) (rg_len (wM_len.trans wM_len.symm)) 66 rfl ?_
    obtain rfl := Option.some.inj hR
    exact g_lret C hr hlocks hA (by first | (dsimp only; done) | rfl) (by first | (dsimp only; done) | rfl) dX4_said_66
  · refine g_iload_n C dX4_said_4 rfl 5 rfl ?_
    refine g_aload_n C dX4_said_5 rfl 6 rfl ?_
    refine g_get (v := .int (S.1 0 3)) C (hiC hiA_4) 0 rfl rfl 12 (by decide) (List.mem_cons_of_mem _ wl_242) rfl rfl dX4_said_6 9 rfl ?_
    refine g_ishr C dX4_said_9 10 rfl ?_
    refine g_if_eq C dX4_said_10 hR 17 13 (by decide) rfl (fun c_10 hR => ?_) (fun c_10 hR => ?_)
    · refine g_iload_n C dX4_said_17 rfl 18 rfl ?_
      refine g_iconst C dX4_said_18 0 ic_0 19 rfl ?_
      refine g_iconst C dX4_said_19 1 ic_1 20 rfl ?_
      refine g_callIR C (rn_S C (k_X4_isIn l g p1 0 1) (va_cwS 3 C.1.2.2.2.2 (gdS wl_232 wl_230 wl_231 wl_5) rfl rfl rfl hd_X4_isIn.2 ⟨Nat.le_of_ble_eq_true rfl, Nat.le_of_ble_eq_true rfl⟩) [] rfl rfl rfl rfl (Nat.le_of_ble_eq_true rfl) ⟨Nat.zero_le _, Nat.zero_le _⟩ dX4_said_20) 23 rfl ?_
      refine g_if_eq C dX4_said_23 hR 35 26 (by decide) rfl (fun c_23 hR => ?_) (fun c_23 hR => ?_)
      · refine g_bipush C dX4_said_35 (-2) bp_m2 37 rfl ?_
        refine g_goto C dX4_said_37 53 (by decide) ?_
        refine g_istore C dX4_said_53 [_, _, _, _, _, _, _, _, _] (Nat.le_of_ble_eq_true rfl) rfl rfl 55 rfl ?_
        refine g_iload C dX4_said_55 rfl 57 rfl ?_
        refine g_if_eqF C dX4_said_57 (by decide) 67 60 (by decide) rfl ?_
        refine g_aload_n C dX4_said_60 rfl 61 rfl ?_
        refine g_iload C dX4_said_61 rfl 63 rfl ?_
        obtain ⟨v2, hv2, hR⟩ := opt_b hR
        refine g_callL C (rn_V C (k_X4_lowest l g b S (-2) N_ v2 hv2) (cwV 1 C.1.2.2.2.2 (gdV wl_462 wl_459 wl_460 wl_461 wl_5) rfl rfl rfl hd_X4_lowest ⟨Nat.le_of_ble_eq_true rfl, Nat.le_of_ble_eq_true rfl⟩) 0 rfl rfl _ rg_C rg_n rfl rfl (Nat.le_of_ble_eq_true rfl) ⟨Nat.zero_le _, Nat.zero_le _⟩ dX4_said_63) (wM g b v2.2) (rg_put (wM_len.trans wM_len.symm)) (rg_len (wM_len.trans wM_len.symm)) 66 rfl ?_
        obtain rfl := Option.some.inj hR
        exact g_lret C hr hlocks hA (by first | (dsimp only; done) | rfl) (by first | (dsimp only; done) | rfl) dX4_said_66
      · refine g_iload_n C dX4_said_26 rfl 27 rfl ?_
        refine g_iconst C dX4_said_27 0 ic_0 28 rfl ?_
        refine g_iconst C dX4_said_28 1 ic_1 29 rfl ?_
        refine g_callIR C (rn_S C (k_X4_isIn l g p2 0 1) (va_cwS 3 C.1.2.2.2.2 (gdS wl_232 wl_230 wl_231 wl_5) rfl rfl rfl hd_X4_isIn.2 ⟨Nat.le_of_ble_eq_true rfl, Nat.le_of_ble_eq_true rfl⟩) [] rfl rfl rfl rfl (Nat.le_of_ble_eq_true rfl) ⟨Nat.zero_le _, Nat.zero_le _⟩ dX4_said_29) 32 rfl ?_
        refine g_if_ne C dX4_said_32 hR 40 35 (by decide) rfl (fun c_32 hR => ?_) (fun c_32 hR => ?_)
        · refine g_aload_n C dX4_said_40 rfl 41 rfl ?_
          refine g_get (v := .int (S.1 0 0)) C (hiC hiA_4) 0 rfl rfl 9 (by decide) (List.mem_cons_of_mem _ wl_239) rfl rfl dX4_said_41 44 rfl ?_
          refine g_if_ne C dX4_said_44 hR 52 47 (by decide) rfl (fun c_44 hR => ?_) (fun c_44 hR => ?_)
          · refine g_iconst C dX4_said_52 0 ic_0 53 rfl ?_
            refine g_istore C dX4_said_53 [_, _, _, _, _, _, _, _, _] (Nat.le_of_ble_eq_true rfl) rfl rfl 55 rfl ?_
            refine g_iload C dX4_said_55 rfl 57 rfl ?_
            refine g_if_eqT C dX4_said_57 (by decide) 67 (by decide) ?_
            refine g_aload_n C dX4_said_67 rfl 68 rfl ?_
            obtain ⟨v3, hv3, hR⟩ := opt_b hR
            refine g_callV C (rn_V C (k_X4_findThought l g b S N_ v3 hv3) (cwV 0 C.1.2.2.2.2 (gdV wl_467 wl_464 wl_465 wl_466 wl_5) rfl rfl rfl hd_X4_findThought ⟨Nat.le_of_ble_eq_true rfl, Nat.le_of_ble_eq_true rfl⟩) 0 rfl rfl _ rg_C rg_n rfl rfl (Nat.le_of_ble_eq_true rfl) ⟨Nat.zero_le _, Nat.zero_le _⟩ dX4_said_68) (wM g b v3) (rg_put (wM_len.trans wM_len.symm)) (rg_len (wM_len.trans wM_len.symm)) 71 rfl ?_
            refine g_aload_n C dX4_said_71 rfl 72 rfl ?_
            obtain ⟨v4, hv4, hR⟩ := opt_b hR
            refine g_callLR C (rn_V C (k_X4_allThought l g b v3 N_ v4 hv4) (cwV 0 C.1.2.2.2.2 (gdV wl_492 wl_489 wl_490 wl_491 wl_5) rfl rfl rfl hd_X4_allThought ⟨Nat.le_of_ble_eq_true rfl, Nat.le_of_ble_eq_true rfl⟩) 0 rfl rfl _ rg_C rg_n rfl rfl (Nat.le_of_ble_eq_true rfl) ⟨Nat.zero_le _, Nat.zero_le _⟩ dX4_said_72) 75 rfl ?_
            refine g_lstore C dX4_said_75 [_, _, _, _, _, _, _, _, _] (Nat.le_of_ble_eq_true rfl) rfl rfl 77 rfl ?_
            refine g_iconst C dX4_said_77 0 ic_0 78 rfl ?_
            refine g_istore C dX4_said_78 [_, _, _, _, _, _, _, _, _] (Nat.le_of_ble_eq_true rfl) rfl rfl 80 rfl ?_
            refine g_lv [some (.ref (b 0)), some (.int p0), some (.int p1), some (.int p2), some (.int 0), some (.long v4), none, some (.int 0), none] (lvLe.sm (lvLe.sm (lvLe.sm (lvLe.sm (lvLe.sm (lvLe.sm (lvLe.nn (lvLe.sm (lvLe.nn lvLe.nil))))))))) ?_
            obtain ⟨v14, hv14, hR⟩ := opt_b hR
            refine k_X4_said_L80 l g C N_ p0 p1 p2 0 v4 N_ 0 v3 _ hv14 ?_
            refine g_iconst C dX4_said_168 0 ic_0 169 rfl ?_
            refine g_istore C dX4_said_169 [_, _, _, _, _, _, _, _, _] (Nat.le_of_ble_eq_true rfl) rfl rfl 171 rfl ?_
            refine g_lv [some (.ref (b 0)), some (.int p0), some (.int p1), some (.int p2), some (.int 0), some (.long v4), none, some (.int 0), none] (lvLe.sm (lvLe.sm (lvLe.sm (lvLe.sm (lvLe.sm (lvLe.sm (lvLe.nn (lvLe.sm (lvLe.nn lvLe.nil))))))))) ?_
            obtain ⟨v15, hv15, hR⟩ := opt_b hR
            refine k_X4_said_L171 l g C N_ p0 p1 p2 0 v14.2 N_ v4 0 _ hv15 ?_
            refine g_iload_n C dX4_said_194 rfl 195 rfl ?_
            refine g_if_ne C dX4_said_195 hR 211 198 (by decide) rfl (fun c_195 hR => ?_) (fun c_195 hR => ?_)
            · refine g_aload_n C dX4_said_211 rfl 212 rfl ?_
              refine g_get (v := .ref (b 18)) C (hiC hiA_4) 0 rfl rfl 26 (by decide) (List.mem_cons_of_mem _ wl_81) rfl rfl dX4_said_212 215 rfl ?_
              refine g_iconst C dX4_said_215 0 ic_0 216 rfl ?_
              refine g_lald (f := (v14.2.2 1)) C 18 rfl (by unfold vp_in; decide) dX4_said_216 217 rfl ?_
              refine g_aload_n C dX4_said_217 rfl 218 rfl ?_
              refine g_get (v := .ref (b 18)) C (hiC hiA_4) 0 rfl rfl 26 (by decide) (List.mem_cons_of_mem _ wl_81) rfl rfl dX4_said_218 221 rfl ?_
              refine g_iconst C dX4_said_221 1 ic_1 222 rfl ?_
              refine g_lald (f := (v14.2.2 1)) C 18 rfl (by unfold vp_in; decide) dX4_said_222 223 rfl ?_
              refine g_ladd C dX4_said_223 224 rfl ?_
              refine g_aload_n C dX4_said_224 rfl 225 rfl ?_
              obtain ⟨v16, hv16, hR⟩ := opt_b hR
              refine g_callLR C (rn_V C (k_X4_allParts l g b v14.2 N_ v16 hv16) (cwV 0 C.1.2.2.2.2 (gdV wl_688 wl_685 wl_686 wl_687 wl_5) rfl rfl rfl hd_X4_allParts ⟨Nat.le_of_ble_eq_true rfl, Nat.le_of_ble_eq_true rfl⟩) 0 rfl rfl _ rg_C rg_n rfl rfl (Nat.le_of_ble_eq_true rfl) ⟨Nat.zero_le _, Nat.zero_le _⟩ dX4_said_225) 228 rfl ?_
              refine g_iload_n C dX4_said_228 rfl 229 rfl ?_
              obtain ⟨v17, hv17, hR⟩ := opt_b hR
              refine g_callLR C (rn_S C (k_X4_partOf l g (((v14.2.2 1) (Int32.toNatClampNeg 0)) + ((v14.2.2 1) (Int32.toNatClampNeg 1))) v16 p2 N_ v17 hv17) (va_cwS 3 C.1.2.2.2.2 (gdS wl_495 wl_493 wl_494 wl_5) rfl rfl rfl hd_X4_partOf.2 ⟨Nat.le_of_ble_eq_true rfl, Nat.le_of_ble_eq_true rfl⟩) [] rfl rfl rfl rfl (Nat.le_of_ble_eq_true rfl) ⟨Nat.zero_le _, Nat.zero_le _⟩ dX4_said_229) 232 rfl ?_
              obtain rfl := Option.some.inj hR
              exact g_lret C hr hlocks hA (by first | (dsimp only; done) | rfl) (by first | (dsimp only; done) | rfl) dX4_said_232
            · refine g_aload_n C dX4_said_198 rfl 199 rfl ?_
              obtain ⟨v18, hv18, hR⟩ := opt_b hR
              refine g_callLR C (rn_V C (k_X4_allParts l g b v14.2 N_ v18 hv18) (cwV 0 C.1.2.2.2.2 (gdV wl_688 wl_685 wl_686 wl_687 wl_5) rfl rfl rfl hd_X4_allParts ⟨Nat.le_of_ble_eq_true rfl, Nat.le_of_ble_eq_true rfl⟩) 0 rfl rfl _ rg_C rg_n rfl rfl (Nat.le_of_ble_eq_true rfl) ⟨Nat.zero_le _, Nat.zero_le _⟩ dX4_said_199) 202 rfl ?_
              refine g_lload C dX4_said_202 rfl 204 rfl ?_
              refine g_iload_n C dX4_said_204 rfl 205 rfl ?_
              obtain ⟨v19, hv19, hR⟩ := opt_b hR
              refine g_callLR C (rn_S C (k_X4_partOf l g v18 v15.1 p2 N_ v19 hv19) (va_cwS 3 C.1.2.2.2.2 (gdS wl_495 wl_493 wl_494 wl_5) rfl rfl rfl hd_X4_partOf.2 ⟨Nat.le_of_ble_eq_true rfl, Nat.le_of_ble_eq_true rfl⟩) [] rfl rfl rfl rfl (Nat.le_of_ble_eq_true rfl) ⟨Nat.zero_le _, Nat.zero_le _⟩ dX4_said_205) 208 rfl ?_
              refine g_goto C dX4_said_208 232 (by decide) ?_
              obtain rfl := Option.some.inj hR
              exact g_lret C hr hlocks hA (by first | (dsimp only; done) | rfl) (by first | (dsimp only; done) | rfl) dX4_said_232
          · refine g_bipush C dX4_said_47 (-3) bp_m3 49 rfl ?_
            refine g_goto C dX4_said_49 53 (by decide) ?_
            refine g_istore C dX4_said_53 [_, _, _, _, _, _, _, _, _] (Nat.le_of_ble_eq_true rfl) rfl rfl 55 rfl ?_
            refine g_iload C dX4_said_55 rfl 57 rfl ?_
            refine g_if_eqF C dX4_said_57 (by decide) 67 60 (by decide) rfl ?_
            refine g_aload_n C dX4_said_60 rfl 61 rfl ?_
            refine g_iload C dX4_said_61 rfl 63 rfl ?_
            obtain ⟨v20, hv20, hR⟩ := opt_b hR
            refine g_callL C (rn_V C (k_X4_lowest l g b S (-3) N_ v20 hv20) (cwV 1 C.1.2.2.2.2 (gdV wl_462 wl_459 wl_460 wl_461 wl_5) rfl rfl rfl hd_X4_lowest ⟨Nat.le_of_ble_eq_true rfl, Nat.le_of_ble_eq_true rfl⟩) 0 rfl rfl _ rg_C rg_n rfl rfl (Nat.le_of_ble_eq_true rfl) ⟨Nat.zero_le _, Nat.zero_le _⟩ dX4_said_63) (wM g b v20.2) (rg_put (wM_len.trans wM_len.symm)) (rg_len (wM_len.trans wM_len.symm)) 66 rfl ?_
            obtain rfl := Option.some.inj hR
            exact g_lret C hr hlocks hA (by first | (dsimp only; done) | rfl) (by first | (dsimp only; done) | rfl) dX4_said_66
        · refine g_bipush C dX4_said_35 (-2) bp_m2 37 rfl ?_
          refine g_goto C dX4_said_37 53 (by decide) ?_
          refine g_istore C dX4_said_53 [_, _, _, _, _, _, _, _, _] (Nat.le_of_ble_eq_true rfl) rfl rfl 55 rfl ?_
          refine g_iload C dX4_said_55 rfl 57 rfl ?_
          refine g_if_eqF C dX4_said_57 (by decide) 67 60 (by decide) rfl ?_
          refine g_aload_n C dX4_said_60 rfl 61 rfl ?_
          refine g_iload C dX4_said_61 rfl 63 rfl ?_
          obtain ⟨v21, hv21, hR⟩ := opt_b hR
          refine g_callL C (rn_V C (k_X4_lowest l g b S (-2) N_ v21 hv21) (cwV 1 C.1.2.2.2.2 (gdV wl_462 wl_459 wl_460 wl_461 wl_5) rfl rfl rfl hd_X4_lowest ⟨Nat.le_of_ble_eq_true rfl, Nat.le_of_ble_eq_true rfl⟩) 0 rfl rfl _ rg_C rg_n rfl rfl (Nat.le_of_ble_eq_true rfl) ⟨Nat.zero_le _, Nat.zero_le _⟩ dX4_said_63) (wM g b v21.2) (rg_put (wM_len.trans wM_len.symm)) (rg_len (wM_len.trans wM_len.symm)) 66 rfl ?_
          obtain rfl := Option.some.inj hR
          exact g_lret C hr hlocks hA (by first | (dsimp only; done) | rfl) (by first | (dsimp only; done) | rfl) dX4_said_66
    · refine g_iconst C dX4_said_13 (-1) ic_m1 14 rfl ?_
      refine g_goto C dX4_said_14 53 (by decide) ?_
      refine g_istore C dX4_said_53 [_, _, _, _, _, _, _, _, _] (Nat.le_of_ble_eq_true rfl) rfl rfl 55 rfl ?_
      refine g_iload C dX4_said_55 rfl 57 rfl ?_
      refine g_if_eqF C dX4_said_57 (by decide) 67 60 (by decide) rfl ?_
      refine g_aload_n C dX4_said_60 rfl 61 rfl ?_
      refine g_iload C dX4_said_61 rfl 63 rfl ?_
      obtain ⟨v22, hv22, hR⟩ := opt_b hR
      refine g_callL C (rn_V C (k_X4_lowest l g b S (-1) N_ v22 hv22) (cwV 1 C.1.2.2.2.2 (gdV wl_462 wl_459 wl_460 wl_461 wl_5) rfl rfl rfl hd_X4_lowest ⟨Nat.le_of_ble_eq_true rfl, Nat.le_of_ble_eq_true rfl⟩) 0 rfl rfl _ rg_C rg_n rfl rfl (Nat.le_of_ble_eq_true rfl) ⟨Nat.zero_le _, Nat.zero_le _⟩ dX4_said_63) (wM g b v22.2) (rg_put (wM_len.trans wM_len.symm)) (rg_len (wM_len.trans wM_len.symm)) 66 rfl ?_
      obtain rfl := Option.some.inj hR
      exact g_lret C hr hlocks hA (by first | (dsimp only; done) | rfl) (by first | (dsimp only; done) | rfl) dX4_said_66
theorem hd_X4_rightOf : yX4_rightOf.cls = RX4 ∧ yX4_rightOf.cls ≠ "java/lang/invoke/MethodHandle" ∧ yX4_rightOf.cls ≠ "java/lang/invoke/VarHandle" ∧ (parseMethodDescriptor yX4_rightOf.desc).map (fun d => d.parameters.length) = some 1 := by decide +kernel
def f_X4_rightOf_L5 (x1 : Int32) (S : (Nat → Nat → Int32) × (Nat → Nat → Int64)) (N_ : Nat) : Nat → Int64 → Int32 → Option (Int64 × Int32)
  | 0, _, _ => none
  | n_ + 1, x2, x4 =>
    if 5 ≤ x4 then
      some (x2, x4)
    else
      if x4 < 0 ∨ 5 ≤ (Int32.toNatClampNeg x4) then none else
      if x4 ≤ 1 then
        (f_X4_personOff S x1 x4 N_).bind fun v7 =>
        (some ((x2 + (((S.2 0) (Int32.toNatClampNeg x4)) * (Int32.toInt64 (10 - v7)))) : Int64)).bind fun v8 =>
        f_X4_rightOf_L5 x1 S N_ n_ v8 (x4 + 1)
      else
        (f_X4_personOff S x1 x4 N_).bind fun v9 =>
        f_X4_rightOf_L5 x1 S N_ n_ (x2 + (((S.2 0) (Int32.toNatClampNeg x4)) * (Int32.toInt64 v9))) (x4 + 1)
set_option maxRecDepth 100000 in
set_option maxHeartbeats 4000000 in
theorem k_X4_rightOf_L5 (l : Launch) (g : gE) {p : Program} {e : Env} {s : State} {m : MethodId} {args : Array Value} {below : List Frame} {meth : Method} {c : Code} {Q : State → Prop} {A : Nat → Prop} {b : Nat → Nat}  (C : Cx p s m args c g A cX4_rightOf 5 wA_X4_rightOf RX4) (N_ : Nat) (x1 : Int32) (S : (Nat → Nat → Int32) × (Nat → Nat → Int64)) : ∀ (n_ : Nat) (x2 : Int64) (x4 : Int32) (rv_ : Int64 × Int32), f_X4_rightOf_L5 x1 S N_ n_ x2 x4 = some rv_ → (Gm p l e (headSpec wA_X4_rightOf ({ frames := 3, cells := 0, slots := 0, locals := 68 } : Room)).room s m args below meth c Q g A 5 0 0 (wM g b S) [some (.ref (b 0)), some (.int x1), some (.long rv_.1), none, some (.int rv_.2)] [] 55) → Gm p l e (headSpec wA_X4_rightOf ({ frames := 3, cells := 0, slots := 0, locals := 68 } : Room)).room s m args below meth c Q g A 5 0 0 (wM g b S) [some (.ref (b 0)), some (.int x1), some (.long x2), none, some (.int x4)] [] 5 := by
  intro n_
  induction n_ with
  | zero =>
    intro x2 x4 rv_ hR
    simp [f_X4_rightOf_L5] at hR
  | succ n_ ih =>
    intro x2 x4 rv_ hR hk
    rw [f_X4_rightOf_L5] at hR
    refine g_iload C dX4_rightOf_5 rfl 7 rfl ?_
    refine g_iconst C dX4_rightOf_7 5 ic_5 8 rfl ?_
    refine g_icmp_ge C dX4_rightOf_8 hR 55 11 (by decide) rfl (fun c_8 hR => ?_) (fun c_8 hR => ?_)
    · obtain rfl := Option.some.inj hR
      refine g_lv [some (.ref (b 0)), some (.int x1), some (.long x2), none, some (.int x4)] (lvLe.sm (lvLe.sm (lvLe.sm (lvLe.nn (lvLe.sm lvLe.nil))))) ?_
      exact hk
    · refine g_lload_n C dX4_rightOf_11 rfl 12 rfl ?_
      refine g_aload_n C dX4_rightOf_12 rfl 13 rfl ?_
      refine g_get (v := .ref (b 17)) C (hiC hiA_4) 0 rfl rfl 25 (by decide) (List.mem_cons_of_mem _ wl_80) rfl rfl dX4_rightOf_13 16 rfl ?_
      refine g_iload C dX4_rightOf_16 rfl 18 rfl ?_
      obtain ⟨h_18, hR⟩ := opt_n hR
      refine g_lald (f := (S.2 0)) C 17 rfl h_18 dX4_rightOf_18 19 rfl ?_
      refine g_iload C dX4_rightOf_19 rfl 21 rfl ?_
      refine g_iconst C dX4_rightOf_21 1 ic_1 22 rfl ?_
      refine g_icmp_le C dX4_rightOf_22 hR 35 25 (by decide) rfl (fun c_22 hR => ?_) (fun c_22 hR => ?_)
      · refine g_bipush C dX4_rightOf_35 10 bp_10 37 rfl ?_
        refine g_aload_n C dX4_rightOf_37 rfl 38 rfl ?_
        refine g_iload_n C dX4_rightOf_38 rfl 39 rfl ?_
        refine g_iload C dX4_rightOf_39 rfl 41 rfl ?_
        obtain ⟨v7, hv7, hR⟩ := opt_b hR
        refine g_callIR C (rn_V C (k_X4_personOff l g b S x1 x4 N_ v7 hv7) (cwV 2 C.1.2.2.2.2 (gdV wl_751 wl_748 wl_749 wl_750 wl_5) rfl rfl rfl hd_X4_personOff ⟨Nat.le_of_ble_eq_true rfl, Nat.le_of_ble_eq_true rfl⟩) 0 rfl rfl _ rg_C rg_n rfl rfl (Nat.le_of_ble_eq_true rfl) ⟨Nat.zero_le _, Nat.zero_le _⟩ dX4_rightOf_41) 44 rfl ?_
        refine g_isub C dX4_rightOf_44 45 rfl ?_
        refine g_i2l C dX4_rightOf_45 46 rfl ?_
        refine g_lmul C dX4_rightOf_46 47 rfl ?_
        refine g_ladd C dX4_rightOf_47 48 rfl ?_
        obtain ⟨v8, hv8, hR⟩ := opt_b hR
        refine g_topL (Option.some.inj hv8) ?_
        refine g_lstore_n C dX4_rightOf_48 [_, _, _, _, _] (Nat.le_of_ble_eq_true rfl) rfl rfl 49 rfl ?_
        refine g_iinc C dX4_rightOf_49 rfl 1 ic_1 [_, _, _, _, _] (Nat.le_of_ble_eq_true rfl) rfl rfl 52 rfl ?_
        refine g_goto C dX4_rightOf_52 5 (by decide) ?_
        refine g_lv [some (.ref (b 0)), some (.int x1), some (.long v8), none, some (.int (x4 + 1))] (lvLe.sm (lvLe.sm (lvLe.sm (lvLe.nn (lvLe.sm lvLe.nil))))) ?_
        exact ih _ _ rv_ hR hk
      · refine g_aload_n C dX4_rightOf_25 rfl 26 rfl ?_
        refine g_iload_n C dX4_rightOf_26 rfl 27 rfl ?_
        refine g_iload C dX4_rightOf_27 rfl 29 rfl ?_
        obtain ⟨v9, hv9, hR⟩ := opt_b hR
        refine g_callIR C (rn_V C (k_X4_personOff l g b S x1 x4 N_ v9 hv9) (cwV 2 C.1.2.2.2.2 (gdV wl_751 wl_748 wl_749 wl_750 wl_5) rfl rfl rfl hd_X4_personOff ⟨Nat.le_of_ble_eq_true rfl, Nat.le_of_ble_eq_true rfl⟩) 0 rfl rfl _ rg_C rg_n rfl rfl (Nat.le_of_ble_eq_true rfl) ⟨Nat.zero_le _, Nat.zero_le _⟩ dX4_rightOf_29) 32 rfl ?_
        refine g_goto C dX4_rightOf_32 45 (by decide) ?_
        refine g_i2l C dX4_rightOf_45 46 rfl ?_
        refine g_lmul C dX4_rightOf_46 47 rfl ?_
        refine g_ladd C dX4_rightOf_47 48 rfl ?_
        refine g_lstore_n C dX4_rightOf_48 [_, _, _, _, _] (Nat.le_of_ble_eq_true rfl) rfl rfl 49 rfl ?_
        refine g_iinc C dX4_rightOf_49 rfl 1 ic_1 [_, _, _, _, _] (Nat.le_of_ble_eq_true rfl) rfl rfl 52 rfl ?_
        refine g_goto C dX4_rightOf_52 5 (by decide) ?_
        refine g_lv [some (.ref (b 0)), some (.int x1), some (.long (x2 + (((S.2 0) (Int32.toNatClampNeg x4)) * (Int32.toInt64 v9)))), none, some (.int (x4 + 1))] (lvLe.sm (lvLe.sm (lvLe.sm (lvLe.nn (lvLe.sm lvLe.nil))))) ?_
        exact ih _ _ rv_ hR hk
def f_X4_rightOf (S : (Nat → Nat → Int32) × (Nat → Nat → Int64)) (p0 : Int32) (N_ : Nat) : Option (Int64) :=
  (f_X4_rightOf_L5 p0 S N_ N_ 0 0).bind fun v10 =>
  some v10.1
set_option maxRecDepth 100000 in
set_option maxHeartbeats 4000000 in
theorem k_X4_rightOf (l : Launch) (g : gE) (b : Nat → Nat) (S : (Nat → Nat → Int32) × (Nat → Nat → Int64)) (p0 : Int32) (N_ : Nat) (R_ : Int64) (hR : f_X4_rightOf S p0 N_ = some R_) : FnL l g yX4_rightOf wA_X4_rightOf { frames := 3, cells := 0, slots := 0, locals := 68 } [.ref (b 0), .int p0] (wM g b S) R_ (wM g b S) := by
  refine fEntry (As := [.ref (b 0), .int p0]) (maxL := 5) (ret := (some .long)) (by decide) rfl [some (.ref (b 0)), some (.int p0), none, none, none] (Nat.le_of_ble_eq_true rfl) (lvInB.to (lvInB.sm (lvInB.sm (lvInB.nn (lvInB.nn (lvInB.nn lvInB.nil)))))) ?_
  intro p e s m below meth c A C hr hlocks hname hA
  have C : Cx p s m _ c g A cX4_rightOf 5 wA_X4_rightOf RX4 := C
  rw [f_X4_rightOf] at hR
  refine g_lconst C dX4_rightOf_0 0 (by decide) 1 rfl ?_
  refine g_lstore_n C dX4_rightOf_1 [_, _, _, _, _] (Nat.le_of_ble_eq_true rfl) rfl rfl 2 rfl ?_
  refine g_iconst C dX4_rightOf_2 0 ic_0 3 rfl ?_
  refine g_istore C dX4_rightOf_3 [_, _, _, _, _] (Nat.le_of_ble_eq_true rfl) rfl rfl 5 rfl ?_
  refine g_lv [some (.ref (b 0)), some (.int p0), some (.long 0), none, some (.int 0)] (lvLe.sm (lvLe.sm (lvLe.sm (lvLe.nn (lvLe.sm lvLe.nil))))) ?_
  obtain ⟨v10, hv10, hR⟩ := opt_b hR
  refine k_X4_rightOf_L5 l g C N_ p0 S N_ 0 0 _ hv10 ?_
  refine g_lload_n C dX4_rightOf_55 rfl 56 rfl ?_
  obtain rfl := Option.some.inj hR
  exact g_lret C hr hlocks hA (by first | (dsimp only; done) | rfl) (by first | (dsimp only; done) | rfl) dX4_rightOf_56
theorem hd_X4_ask : yX4_ask.cls = RX4 ∧ yX4_ask.cls ≠ "java/lang/invoke/MethodHandle" ∧ yX4_ask.cls ≠ "java/lang/invoke/VarHandle" ∧ (parseMethodDescriptor yX4_ask.desc).map (fun d => d.parameters.length) = some 0 := by decide +kernel
def f_X4_ask_L23 (S : (Nat → Nat → Int32) × (Nat → Nat → Int64)) (N_ : Nat) : Nat → Int32 → Int32 → Option (Int32 × Int32)
  | 0, _, _ => none
  | n_ + 1, x1, x2 =>
    if (S.1 0 3) ≤ x2 then
      some (x1, x2)
    else
      if x1 < 0 then
        f_X4_ask_L23 S N_ n_ x2 (x2 + 1)
      else
        (f_X4_rightOf S x2 N_).bind fun v6 =>
        (f_X4_rightOf S x1 N_).bind fun v7 =>
        if (lg_cmp v6 v7) ≤ 0 then
          f_X4_ask_L23 S N_ n_ x1 (x2 + 1)
        else
          f_X4_ask_L23 S N_ n_ x2 (x2 + 1)
set_option maxRecDepth 100000 in
set_option maxHeartbeats 4000000 in
theorem k_X4_ask_L23 (l : Launch) (g : gE) {p : Program} {e : Env} {s : State} {m : MethodId} {args : Array Value} {below : List Frame} {meth : Method} {c : Code} {Q : State → Prop} {A : Nat → Prop} {b : Nat → Nat}  (C : Cx p s m args c g A cX4_ask 3 wA_X4_ask RX4) (N_ : Nat) (S : (Nat → Nat → Int32) × (Nat → Nat → Int64)) : ∀ (n_ : Nat) (x1 : Int32) (x2 : Int32) (rv_ : Int32 × Int32), f_X4_ask_L23 S N_ n_ x1 x2 = some rv_ → (Gm p l e (headSpec wA_X4_ask ({ frames := 4, cells := 0, slots := 0, locals := 92 } : Room)).room s m args below meth c Q g A 3 0 0 (wM g b S) [some (.ref (b 0)), some (.int rv_.1), some (.int rv_.2)] [] 61) → Gm p l e (headSpec wA_X4_ask ({ frames := 4, cells := 0, slots := 0, locals := 92 } : Room)).room s m args below meth c Q g A 3 0 0 (wM g b S) [some (.ref (b 0)), some (.int x1), some (.int x2)] [] 23 := by
  intro n_
  induction n_ with
  | zero =>
    intro x1 x2 rv_ hR
    simp [f_X4_ask_L23] at hR
  | succ n_ ih =>
    intro x1 x2 rv_ hR hk
    rw [f_X4_ask_L23] at hR
    refine g_iload_n C dX4_ask_23 rfl 24 rfl ?_
    refine g_aload_n C dX4_ask_24 rfl 25 rfl ?_
    refine g_get (v := .int (S.1 0 3)) C (hiC hiA_4) 0 rfl rfl 12 (by decide) (List.mem_cons_of_mem _ wl_242) rfl rfl dX4_ask_25 28 rfl ?_
    refine g_icmp_ge C dX4_ask_28 hR 61 31 (by decide) rfl (fun c_28 hR => ?_) (fun c_28 hR => ?_)
    · obtain rfl := Option.some.inj hR
      refine g_lv [some (.ref (b 0)), some (.int x1), some (.int x2)] (lvLe.sm (lvLe.sm (lvLe.sm lvLe.nil))) ?_
      exact hk
    · refine g_iload_n C dX4_ask_31 rfl 32 rfl ?_
      refine g_if_lt C dX4_ask_32 hR 49 35 (by decide) rfl (fun c_32 hR => ?_) (fun c_32 hR => ?_)
      · refine g_iload_n C dX4_ask_49 rfl 50 rfl ?_
        refine g_goto C dX4_ask_50 54 (by decide) ?_
        refine g_istore_n C dX4_ask_54 [_, _, _] (Nat.le_of_ble_eq_true rfl) rfl rfl 55 rfl ?_
        refine g_iinc C dX4_ask_55 rfl 1 ic_1 [_, _, _] (Nat.le_of_ble_eq_true rfl) rfl rfl 58 rfl ?_
        refine g_goto C dX4_ask_58 23 (by decide) ?_
        refine g_lv [some (.ref (b 0)), some (.int x2), some (.int (x2 + 1))] (lvLe.sm (lvLe.sm (lvLe.sm lvLe.nil))) ?_
        exact ih _ _ rv_ hR hk
      · refine g_aload_n C dX4_ask_35 rfl 36 rfl ?_
        refine g_iload_n C dX4_ask_36 rfl 37 rfl ?_
        obtain ⟨v6, hv6, hR⟩ := opt_b hR
        refine g_callLR C (rn_V C (k_X4_rightOf l g b S x2 N_ v6 hv6) (cwV 1 C.1.2.2.2.2 (gdV wl_768 wl_765 wl_766 wl_767 wl_5) rfl rfl rfl hd_X4_rightOf ⟨Nat.le_of_ble_eq_true rfl, Nat.le_of_ble_eq_true rfl⟩) 0 rfl rfl _ rg_C rg_n rfl rfl (Nat.le_of_ble_eq_true rfl) ⟨Nat.zero_le _, Nat.zero_le _⟩ dX4_ask_37) 40 rfl ?_
        refine g_aload_n C dX4_ask_40 rfl 41 rfl ?_
        refine g_iload_n C dX4_ask_41 rfl 42 rfl ?_
        obtain ⟨v7, hv7, hR⟩ := opt_b hR
        refine g_callLR C (rn_V C (k_X4_rightOf l g b S x1 N_ v7 hv7) (cwV 1 C.1.2.2.2.2 (gdV wl_768 wl_765 wl_766 wl_767 wl_5) rfl rfl rfl hd_X4_rightOf ⟨Nat.le_of_ble_eq_true rfl, Nat.le_of_ble_eq_true rfl⟩) 0 rfl rfl _ rg_C rg_n rfl rfl (Nat.le_of_ble_eq_true rfl) ⟨Nat.zero_le _, Nat.zero_le _⟩ dX4_ask_42) 45 rfl ?_
        refine g_lcmp C dX4_ask_45 46 rfl ?_
        refine g_if_le C dX4_ask_46 hR 53 49 (by decide) rfl (fun c_46 hR => ?_) (fun c_46 hR => ?_)
        · refine g_iload_n C dX4_ask_53 rfl 54 rfl ?_
          refine g_istore_n C dX4_ask_54 [_, _, _] (Nat.le_of_ble_eq_true rfl) rfl rfl 55 rfl ?_
          refine g_iinc C dX4_ask_55 rfl 1 ic_1 [_, _, _] (Nat.le_of_ble_eq_true rfl) rfl rfl 58 rfl ?_
          refine g_goto C dX4_ask_58 23 (by decide) ?_
          refine g_lv [some (.ref (b 0)), some (.int x1), some (.int (x2 + 1))] (lvLe.sm (lvLe.sm (lvLe.sm lvLe.nil))) ?_
          exact ih _ _ rv_ hR hk
        · refine g_iload_n C dX4_ask_49 rfl 50 rfl ?_
          refine g_goto C dX4_ask_50 54 (by decide) ?_
          refine g_istore_n C dX4_ask_54 [_, _, _] (Nat.le_of_ble_eq_true rfl) rfl rfl 55 rfl ?_
          refine g_iinc C dX4_ask_55 rfl 1 ic_1 [_, _, _] (Nat.le_of_ble_eq_true rfl) rfl rfl 58 rfl ?_
          refine g_goto C dX4_ask_58 23 (by decide) ?_
          refine g_lv [some (.ref (b 0)), some (.int x2), some (.int (x2 + 1))] (lvLe.sm (lvLe.sm (lvLe.sm lvLe.nil))) ?_
          exact ih _ _ rv_ hR hk
def f_X4_ask (S : (Nat → Nat → Int32) × (Nat → Nat → Int64)) (N_ : Nat) : Option (Int32 × ((Nat → Nat → Int32) × (Nat → Nat → Int64))) :=
  if (S.1 0 0) = 0 then
    (f_X4_no S (-3) N_).bind fun v9 =>
    some (v9.1, v9.2)
  else
    (f_X4_findThought S N_).bind fun v1 =>
    (f_X4_ask_L23 v1 N_ N_ (-9) 0).bind fun v8 =>
    some (v8.1, v1)
set_option maxRecDepth 100000 in
set_option maxHeartbeats 4000000 in
theorem k_X4_ask (l : Launch) (g : gE) (b : Nat → Nat) (S : (Nat → Nat → Int32) × (Nat → Nat → Int64)) (N_ : Nat) (R_ : Int32 × ((Nat → Nat → Int32) × (Nat → Nat → Int64))) (hR : f_X4_ask S N_ = some R_) : FnI l g yX4_ask wA_X4_ask { frames := 4, cells := 0, slots := 0, locals := 92 } [.ref (b 0)] (wM g b S) R_.1 (wM g b R_.2) := by
  refine fEntry (As := [.ref (b 0)]) (maxL := 3) (ret := (some .int)) (by decide) rfl [some (.ref (b 0)), none, none] (Nat.le_of_ble_eq_true rfl) (lvInB.to (lvInB.sm (lvInB.nn (lvInB.nn lvInB.nil)))) ?_
  intro p e s m below meth c A C hr hlocks hname hA
  have C : Cx p s m _ c g A cX4_ask 3 wA_X4_ask RX4 := C
  rw [f_X4_ask] at hR
  refine g_aload_n C dX4_ask_0 rfl 1 rfl ?_
  refine g_get (v := .int (S.1 0 0)) C (hiC hiA_4) 0 rfl rfl 9 (by decide) (List.mem_cons_of_mem _ wl_239) rfl rfl dX4_ask_1 4 rfl ?_
  refine g_if_ne C dX4_ask_4 hR 14 7 (by decide) rfl (fun c_4 hR => ?_) (fun c_4 hR => ?_)
  · refine g_aload_n C dX4_ask_14 rfl 15 rfl ?_
    obtain ⟨v1, hv1, hR⟩ := opt_b hR
    refine g_callV C (rn_V C (k_X4_findThought l g b S N_ v1 hv1) (cwV 0 C.1.2.2.2.2 (gdV wl_467 wl_464 wl_465 wl_466 wl_5) rfl rfl rfl hd_X4_findThought ⟨Nat.le_of_ble_eq_true rfl, Nat.le_of_ble_eq_true rfl⟩) 0 rfl rfl _ rg_C rg_n rfl rfl (Nat.le_of_ble_eq_true rfl) ⟨Nat.zero_le _, Nat.zero_le _⟩ dX4_ask_15) (wM g b v1) (rg_put (wM_len.trans wM_len.symm)) (rg_len (wM_len.trans wM_len.symm)) 18 rfl ?_
    refine g_bipush C dX4_ask_18 (-9) bp_m9 20 rfl ?_
    refine g_istore_n C dX4_ask_20 [_, _, _] (Nat.le_of_ble_eq_true rfl) rfl rfl 21 rfl ?_
    refine g_iconst C dX4_ask_21 0 ic_0 22 rfl ?_
    refine g_istore_n C dX4_ask_22 [_, _, _] (Nat.le_of_ble_eq_true rfl) rfl rfl 23 rfl ?_
    refine g_lv [some (.ref (b 0)), some (.int (-9)), some (.int 0)] (lvLe.sm (lvLe.sm (lvLe.sm lvLe.nil))) ?_
    obtain ⟨v8, hv8, hR⟩ := opt_b hR
    refine k_X4_ask_L23 l g C N_ v1 N_ (-9) 0 _ hv8 ?_
    refine g_iload_n C dX4_ask_61 rfl 62 rfl ?_
    obtain rfl := Option.some.inj hR
    exact g_iret C hr hlocks hA (by first | (dsimp only; done) | rfl) (by first | (dsimp only; done) | rfl) dX4_ask_62
  · refine g_aload_n C dX4_ask_7 rfl 8 rfl ?_
    refine g_bipush C dX4_ask_8 (-3) bp_m3 10 rfl ?_
    obtain ⟨v9, hv9, hR⟩ := opt_b hR
    refine g_callI C (rn_V C (k_X4_no l g b S (-3) N_ v9 hv9) (cwV 1 C.1.2.2.2.2 (gdV wl_111 wl_108 wl_109 wl_110 wl_5) rfl rfl rfl hd_X4_no ⟨Nat.le_of_ble_eq_true rfl, Nat.le_of_ble_eq_true rfl⟩) 0 rfl rfl _ rg_C rg_n rfl rfl (Nat.le_of_ble_eq_true rfl) ⟨Nat.zero_le _, Nat.zero_le _⟩ dX4_ask_10) (wM g b v9.2) (rg_put (wM_len.trans wM_len.symm)) (rg_len (wM_len.trans wM_len.symm)) 13 rfl ?_
    obtain rfl := Option.some.inj hR
    exact g_iret C hr hlocks hA (by first | (dsimp only; done) | rfl) (by first | (dsimp only; done) | rfl) dX4_ask_13
theorem hd_X4_laysWeights : yX4_laysWeights.cls = RX4 ∧ yX4_laysWeights.cls ≠ "java/lang/invoke/MethodHandle" ∧ yX4_laysWeights.cls ≠ "java/lang/invoke/VarHandle" ∧ (parseMethodDescriptor yX4_laysWeights.desc).map (fun d => d.parameters.length) = some 3 := by decide +kernel
def f_X4_laysWeights_1_L3 (x2 : Int32) (x3 : Int32) (N_ : Nat) : Nat → Int32 → ((Nat → Nat → Int32) × (Nat → Nat → Int64)) → Option (Int32 × ((Nat → Nat → Int32) × (Nat → Nat → Int64)))
  | 0, _, _ => none
  | n_ + 1, x4, S =>
    if 5 ≤ x4 then
      some (x4, S)
    else
      (f_X4_weightAt S x2 x3 x4 N_).bind fun v3 =>
      if x4 < 0 ∨ 5 ≤ (Int32.toNatClampNeg x4) then none else
      f_X4_laysWeights_1_L3 x2 x3 N_ n_ (x4 + 1) (S.1, (kLS S.2 1 (vp_updL (S.2 1) (Int32.toNatClampNeg x4) (Int32.toInt64 v3))))
set_option maxRecDepth 100000 in
set_option maxHeartbeats 4000000 in
theorem k_X4_laysWeights_1_L3 (l : Launch) (g : gE) {p : Program} {e : Env} {s : State} {m : MethodId} {args : Array Value} {below : List Frame} {meth : Method} {c : Code} {Q : State → Prop} {A : Nat → Prop} {b : Nat → Nat}  (C : Cx p s m args c g A cX4_laysWeights 5 wA_X4_laysWeights RX4) (N_ : Nat) (x2 : Int32) (x3 : Int32) : ∀ (n_ : Nat) (x4 : Int32) (S : (Nat → Nat → Int32) × (Nat → Nat → Int64)) (rv_ : Int32 × ((Nat → Nat → Int32) × (Nat → Nat → Int64))), f_X4_laysWeights_1_L3 x2 x3 N_ n_ x4 S = some rv_ → (Gm p l e (headSpec wA_X4_laysWeights ({ frames := 2, cells := 0, slots := 0, locals := 45 } : Room)).room s m args below meth c Q g A 5 0 0 (wM g b rv_.2) [some (.ref (b 0)), some (.ref (b 18)), some (.int x2), some (.int x3), some (.int rv_.1)] [] 28) → Gm p l e (headSpec wA_X4_laysWeights ({ frames := 2, cells := 0, slots := 0, locals := 45 } : Room)).room s m args below meth c Q g A 5 0 0 (wM g b S) [some (.ref (b 0)), some (.ref (b 18)), some (.int x2), some (.int x3), some (.int x4)] [] 3 := by
  intro n_
  induction n_ with
  | zero =>
    intro x4 S rv_ hR
    simp [f_X4_laysWeights_1_L3] at hR
  | succ n_ ih =>
    intro x4 S rv_ hR hk
    rw [f_X4_laysWeights_1_L3] at hR
    refine g_iload C dX4_laysWeights_3 rfl 5 rfl ?_
    refine g_iconst C dX4_laysWeights_5 5 ic_5 6 rfl ?_
    refine g_icmp_ge C dX4_laysWeights_6 hR 28 9 (by decide) rfl (fun c_6 hR => ?_) (fun c_6 hR => ?_)
    · obtain rfl := Option.some.inj hR
      refine g_lv [some (.ref (b 0)), some (.ref (b 18)), some (.int x2), some (.int x3), some (.int x4)] (lvLe.sm (lvLe.sm (lvLe.sm (lvLe.sm (lvLe.sm lvLe.nil))))) ?_
      exact hk
    · refine g_aload_n C dX4_laysWeights_9 rfl 10 rfl ?_
      refine g_iload C dX4_laysWeights_10 rfl 12 rfl ?_
      refine g_aload_n C dX4_laysWeights_12 rfl 13 rfl ?_
      refine g_iload_n C dX4_laysWeights_13 rfl 14 rfl ?_
      refine g_iload_n C dX4_laysWeights_14 rfl 15 rfl ?_
      refine g_iload C dX4_laysWeights_15 rfl 17 rfl ?_
      obtain ⟨v3, hv3, hR⟩ := opt_b hR
      refine g_callIR C (rn_V C (k_X4_weightAt l g b S x2 x3 x4 N_ v3 hv3) (cwV 3 C.1.2.2.2.2 (gdV wl_471 wl_468 wl_469 wl_470 wl_5) rfl rfl rfl hd_X4_weightAt ⟨Nat.le_of_ble_eq_true rfl, Nat.le_of_ble_eq_true rfl⟩) 0 rfl rfl _ rg_C rg_n rfl rfl (Nat.le_of_ble_eq_true rfl) ⟨Nat.zero_le _, Nat.zero_le _⟩ dX4_laysWeights_17) 20 rfl ?_
      refine g_i2l C dX4_laysWeights_20 21 rfl ?_
      obtain ⟨h_21, hR⟩ := opt_n hR
      refine g_last (f := (S.2 1)) C 18 rfl h_21 dX4_laysWeights_21 (wMr g b (S.1 0 0) (S.1 0 1) (S.1 0 2) (S.1 0 3) (S.1 0 4) (S.1 0 5) (S.1 0 6) (S.1 0 7) (S.1 0 8) (S.1 0 9) (S.1 0 10) (S.1 0 11) (S.1 0 12) (S.1 0 13) (S.1 0 14) (S.1 1) (S.1 2) (S.1 3) (S.1 4) (S.1 5) (S.1 6) (S.1 7) (S.1 8) (S.1 9) (S.1 10) (S.1 11) (S.1 12) (S.1 13) (S.1 14) (S.1 15) (S.1 16) (S.2 0) (vp_updL (S.2 1) (Int32.toNatClampNeg x4) (Int32.toInt64 v3)) (S.2 2)) rfl 22 rfl ?_
      refine g_iinc C dX4_laysWeights_22 rfl 1 ic_1 [_, _, _, _, _] (Nat.le_of_ble_eq_true rfl) rfl rfl 25 rfl ?_
      refine g_goto C dX4_laysWeights_25 3 (by decide) ?_
      refine g_lv [some (.ref (b 0)), some (.ref (b 18)), some (.int x2), some (.int x3), some (.int (x4 + 1))] (lvLe.sm (lvLe.sm (lvLe.sm (lvLe.sm (lvLe.sm lvLe.nil))))) ?_
      exact ih _ _ rv_ hR hk
def f_X4_laysWeights_1 (S : (Nat → Nat → Int32) × (Nat → Nat → Int64)) (p0 : Int32) (p1 : Int32) (N_ : Nat) : Option (((Nat → Nat → Int32) × (Nat → Nat → Int64))) :=
  (f_X4_laysWeights_1_L3 p0 p1 N_ N_ 0 S).bind fun v4 =>
  some v4.2
set_option maxRecDepth 100000 in
set_option maxHeartbeats 4000000 in
theorem k_X4_laysWeights_1 (l : Launch) (g : gE) (b : Nat → Nat) (S : (Nat → Nat → Int32) × (Nat → Nat → Int64)) (p0 : Int32) (p1 : Int32) (N_ : Nat) (R_ : ((Nat → Nat → Int32) × (Nat → Nat → Int64))) (hR : f_X4_laysWeights_1 S p0 p1 N_ = some R_) : FnV l g yX4_laysWeights wA_X4_laysWeights { frames := 2, cells := 0, slots := 0, locals := 45 } [.ref (b 0), .ref (b 18), .int p0, .int p1] (wM g b S)  (wM g b R_) := by
  refine fEntry (As := [.ref (b 0), .ref (b 18), .int p0, .int p1]) (maxL := 5) (ret := none) (by decide) rfl [some (.ref (b 0)), some (.ref (b 18)), some (.int p0), some (.int p1), none] (Nat.le_of_ble_eq_true rfl) (lvInB.to (lvInB.sm (lvInB.sm (lvInB.sm (lvInB.sm (lvInB.nn lvInB.nil)))))) ?_
  intro p e s m below meth c A C hr hlocks hname hA
  have C : Cx p s m _ c g A cX4_laysWeights 5 wA_X4_laysWeights RX4 := C
  rw [f_X4_laysWeights_1] at hR
  refine g_iconst C dX4_laysWeights_0 0 ic_0 1 rfl ?_
  refine g_istore C dX4_laysWeights_1 [_, _, _, _, _] (Nat.le_of_ble_eq_true rfl) rfl rfl 3 rfl ?_
  refine g_lv [some (.ref (b 0)), some (.ref (b 18)), some (.int p0), some (.int p1), some (.int 0)] (lvLe.sm (lvLe.sm (lvLe.sm (lvLe.sm (lvLe.sm lvLe.nil))))) ?_
  obtain ⟨v4, hv4, hR⟩ := opt_b hR
  refine k_X4_laysWeights_1_L3 l g C N_ p0 p1 N_ 0 S _ hv4 ?_
  obtain rfl := Option.some.inj hR
  exact g_vret C hr hlocks hA (by first | (dsimp only; done) | rfl) dX4_laysWeights_28
def f_X4_laysWeights_2_L3 (x2 : Int32) (x3 : Int32) (N_ : Nat) : Nat → Int32 → ((Nat → Nat → Int32) × (Nat → Nat → Int64)) → Option (Int32 × ((Nat → Nat → Int32) × (Nat → Nat → Int64)))
  | 0, _, _ => none
  | n_ + 1, x4, S =>
    if 5 ≤ x4 then
      some (x4, S)
    else
      (f_X4_weightAt S x2 x3 x4 N_).bind fun v3 =>
      if x4 < 0 ∨ 5 ≤ (Int32.toNatClampNeg x4) then none else
      f_X4_laysWeights_2_L3 x2 x3 N_ n_ (x4 + 1) (S.1, (kLS S.2 2 (vp_updL (S.2 2) (Int32.toNatClampNeg x4) (Int32.toInt64 v3))))
set_option maxRecDepth 100000 in
set_option maxHeartbeats 4000000 in
theorem k_X4_laysWeights_2_L3 (l : Launch) (g : gE) {p : Program} {e : Env} {s : State} {m : MethodId} {args : Array Value} {below : List Frame} {meth : Method} {c : Code} {Q : State → Prop} {A : Nat → Prop} {b : Nat → Nat}  (C : Cx p s m args c g A cX4_laysWeights 5 wA_X4_laysWeights RX4) (N_ : Nat) (x2 : Int32) (x3 : Int32) : ∀ (n_ : Nat) (x4 : Int32) (S : (Nat → Nat → Int32) × (Nat → Nat → Int64)) (rv_ : Int32 × ((Nat → Nat → Int32) × (Nat → Nat → Int64))), f_X4_laysWeights_2_L3 x2 x3 N_ n_ x4 S = some rv_ → (Gm p l e (headSpec wA_X4_laysWeights ({ frames := 2, cells := 0, slots := 0, locals := 45 } : Room)).room s m args below meth c Q g A 5 0 0 (wM g b rv_.2) [some (.ref (b 0)), some (.ref (b 19)), some (.int x2), some (.int x3), some (.int rv_.1)] [] 28) → Gm p l e (headSpec wA_X4_laysWeights ({ frames := 2, cells := 0, slots := 0, locals := 45 } : Room)).room s m args below meth c Q g A 5 0 0 (wM g b S) [some (.ref (b 0)), some (.ref (b 19)), some (.int x2), some (.int x3), some (.int x4)] [] 3 := by
  intro n_
  induction n_ with
  | zero =>
    intro x4 S rv_ hR
    simp [f_X4_laysWeights_2_L3] at hR
  | succ n_ ih =>
    intro x4 S rv_ hR hk
    rw [f_X4_laysWeights_2_L3] at hR
    refine g_iload C dX4_laysWeights_3 rfl 5 rfl ?_
    refine g_iconst C dX4_laysWeights_5 5 ic_5 6 rfl ?_
    refine g_icmp_ge C dX4_laysWeights_6 hR 28 9 (by decide) rfl (fun c_6 hR => ?_) (fun c_6 hR => ?_)
    · obtain rfl := Option.some.inj hR
      refine g_lv [some (.ref (b 0)), some (.ref (b 19)), some (.int x2), some (.int x3), some (.int x4)] (lvLe.sm (lvLe.sm (lvLe.sm (lvLe.sm (lvLe.sm lvLe.nil))))) ?_
      exact hk
    · refine g_aload_n C dX4_laysWeights_9 rfl 10 rfl ?_
      refine g_iload C dX4_laysWeights_10 rfl 12 rfl ?_
      refine g_aload_n C dX4_laysWeights_12 rfl 13 rfl ?_
      refine g_iload_n C dX4_laysWeights_13 rfl 14 rfl ?_
      refine g_iload_n C dX4_laysWeights_14 rfl 15 rfl ?_
      refine g_iload C dX4_laysWeights_15 rfl 17 rfl ?_
      obtain ⟨v3, hv3, hR⟩ := opt_b hR
      refine g_callIR C (rn_V C (k_X4_weightAt l g b S x2 x3 x4 N_ v3 hv3) (cwV 3 C.1.2.2.2.2 (gdV wl_471 wl_468 wl_469 wl_470 wl_5) rfl rfl rfl hd_X4_weightAt ⟨Nat.le_of_ble_eq_true rfl, Nat.le_of_ble_eq_true rfl⟩) 0 rfl rfl _ rg_C rg_n rfl rfl (Nat.le_of_ble_eq_true rfl) ⟨Nat.zero_le _, Nat.zero_le _⟩ dX4_laysWeights_17) 20 rfl ?_
      refine g_i2l C dX4_laysWeights_20 21 rfl ?_
      obtain ⟨h_21, hR⟩ := opt_n hR
      refine g_last (f := (S.2 2)) C 19 rfl h_21 dX4_laysWeights_21 (wMr g b (S.1 0 0) (S.1 0 1) (S.1 0 2) (S.1 0 3) (S.1 0 4) (S.1 0 5) (S.1 0 6) (S.1 0 7) (S.1 0 8) (S.1 0 9) (S.1 0 10) (S.1 0 11) (S.1 0 12) (S.1 0 13) (S.1 0 14) (S.1 1) (S.1 2) (S.1 3) (S.1 4) (S.1 5) (S.1 6) (S.1 7) (S.1 8) (S.1 9) (S.1 10) (S.1 11) (S.1 12) (S.1 13) (S.1 14) (S.1 15) (S.1 16) (S.2 0) (S.2 1) (vp_updL (S.2 2) (Int32.toNatClampNeg x4) (Int32.toInt64 v3))) rfl 22 rfl ?_
      refine g_iinc C dX4_laysWeights_22 rfl 1 ic_1 [_, _, _, _, _] (Nat.le_of_ble_eq_true rfl) rfl rfl 25 rfl ?_
      refine g_goto C dX4_laysWeights_25 3 (by decide) ?_
      refine g_lv [some (.ref (b 0)), some (.ref (b 19)), some (.int x2), some (.int x3), some (.int (x4 + 1))] (lvLe.sm (lvLe.sm (lvLe.sm (lvLe.sm (lvLe.sm lvLe.nil))))) ?_
      exact ih _ _ rv_ hR hk
def f_X4_laysWeights_2 (S : (Nat → Nat → Int32) × (Nat → Nat → Int64)) (p0 : Int32) (p1 : Int32) (N_ : Nat) : Option (((Nat → Nat → Int32) × (Nat → Nat → Int64))) :=
  (f_X4_laysWeights_2_L3 p0 p1 N_ N_ 0 S).bind fun v4 =>
  some v4.2
set_option maxRecDepth 100000 in
set_option maxHeartbeats 4000000 in
theorem k_X4_laysWeights_2 (l : Launch) (g : gE) (b : Nat → Nat) (S : (Nat → Nat → Int32) × (Nat → Nat → Int64)) (p0 : Int32) (p1 : Int32) (N_ : Nat) (R_ : ((Nat → Nat → Int32) × (Nat → Nat → Int64))) (hR : f_X4_laysWeights_2 S p0 p1 N_ = some R_) : FnV l g yX4_laysWeights wA_X4_laysWeights { frames := 2, cells := 0, slots := 0, locals := 45 } [.ref (b 0), .ref (b 19), .int p0, .int p1] (wM g b S)  (wM g b R_) := by
  refine fEntry (As := [.ref (b 0), .ref (b 19), .int p0, .int p1]) (maxL := 5) (ret := none) (by decide) rfl [some (.ref (b 0)), some (.ref (b 19)), some (.int p0), some (.int p1), none] (Nat.le_of_ble_eq_true rfl) (lvInB.to (lvInB.sm (lvInB.sm (lvInB.sm (lvInB.sm (lvInB.nn lvInB.nil)))))) ?_
  intro p e s m below meth c A C hr hlocks hname hA
  have C : Cx p s m _ c g A cX4_laysWeights 5 wA_X4_laysWeights RX4 := C
  rw [f_X4_laysWeights_2] at hR
  refine g_iconst C dX4_laysWeights_0 0 ic_0 1 rfl ?_
  refine g_istore C dX4_laysWeights_1 [_, _, _, _, _] (Nat.le_of_ble_eq_true rfl) rfl rfl 3 rfl ?_
  refine g_lv [some (.ref (b 0)), some (.ref (b 19)), some (.int p0), some (.int p1), some (.int 0)] (lvLe.sm (lvLe.sm (lvLe.sm (lvLe.sm (lvLe.sm lvLe.nil))))) ?_
  obtain ⟨v4, hv4, hR⟩ := opt_b hR
  refine k_X4_laysWeights_2_L3 l g C N_ p0 p1 N_ 0 S _ hv4 ?_
  obtain rfl := Option.some.inj hR
  exact g_vret C hr hlocks hA (by first | (dsimp only; done) | rfl) dX4_laysWeights_28
theorem hd_X4_keep : yX4_keep.cls = RX4 ∧ yX4_keep.cls ≠ "java/lang/invoke/MethodHandle" ∧ yX4_keep.cls ≠ "java/lang/invoke/VarHandle" ∧ (parseMethodDescriptor yX4_keep.desc).map (fun d => d.parameters.length) = some 3 := by decide +kernel
def f_X4_keep_L69 (x1 : Int32) (x2 : Int32) (x3 : Int32) (N_ : Nat) : Nat → Int32 → Int64 → Int64 → Int32 → ((Nat → Nat → Int32) × (Nat → Nat → Int64)) → Option (Int32 × Int64 × Int64 × Int32 × ((Nat → Nat → Int32) × (Nat → Nat → Int64)))
  | 0, _, _, _, _, _ => none
  | n_ + 1, x5, x6, x8, x10, S =>
    if x2 < x10 then
      some (x5, x6, x8, x10, S)
    else
      if (S.1 0 1) < 0 ∨ 5 ≤ (Int32.toNatClampNeg (S.1 0 1)) then none else
      if (S.1 0 1) < 0 ∨ 5 ≤ (Int32.toNatClampNeg (S.1 0 1)) then none else
      (f_X4_laysWeights_1 S (S.1 0 1) (f_X4_heldPoints (((S.1 5) (Int32.toNatClampNeg (S.1 0 1))) + ((24 * x10) * (f_X4_coldOf ((S.1 2) (Int32.toNatClampNeg (S.1 0 1))))))) N_).bind fun v12 =>
      (f_X4_allParts v12 N_).bind fun v13 =>
      (f_X4_bestNet_1 v12 x1 N_).bind fun v14 =>
      if (v12.1 0 1) < 0 ∨ 5 ≤ (Int32.toNatClampNeg (v12.1 0 1)) then none else
      (some (((v14 * (Int32.toInt64 ((v12.1 4) (Int32.toNatClampNeg (v12.1 0 1))))) - ((v13 * (Int32.toInt64 x3)) * (Int32.toInt64 x10))) : Int64)).bind fun v15 =>
      if (lg_cmp x8 0) ≤ 0 then
        f_X4_keep_L69 x1 x2 x3 N_ n_ x10 v15 v13 (x10 + 1) v12
      else
        if 0 < (lg_cmp (v15 * x8) (x6 * v13)) then
          f_X4_keep_L69 x1 x2 x3 N_ n_ x10 v15 v13 (x10 + 1) v12
        else
          f_X4_keep_L69 x1 x2 x3 N_ n_ x5 x6 x8 (x10 + 1) v12
set_option maxRecDepth 100000 in
set_option maxHeartbeats 4000000 in
theorem k_X4_keep_L69 (l : Launch) (g : gE) {p : Program} {e : Env} {s : State} {m : MethodId} {args : Array Value} {below : List Frame} {meth : Method} {c : Code} {Q : State → Prop} {A : Nat → Prop} {b : Nat → Nat}  (C : Cx p s m args c g A cX4_keep 15 wA_X4_keep RX4) (N_ : Nat) (x1 : Int32) (x2 : Int32) (x3 : Int32) (x4 : Int32) : ∀ (n_ : Nat) (x5 : Int32) (x6 : Int64) (x8 : Int64) (x10 : Int32) (S : (Nat → Nat → Int32) × (Nat → Nat → Int64)) (rv_ : Int32 × Int64 × Int64 × Int32 × ((Nat → Nat → Int32) × (Nat → Nat → Int64))), f_X4_keep_L69 x1 x2 x3 N_ n_ x5 x6 x8 x10 S = some rv_ → (Gm p l e (headSpec wA_X4_keep ({ frames := 5, cells := 0, slots := 0, locals := 117 } : Room)).room s m args below meth c Q g A 15 0 0 (wM g b rv_.2.2.2.2) [some (.ref (b 0)), some (.int x1), some (.int x2), some (.int x3), some (.int x4), some (.int rv_.1), some (.long rv_.2.1), none, some (.long rv_.2.2.1), none, some (.int rv_.2.2.2.1), none, none, none, none] [] 198) → Gm p l e (headSpec wA_X4_keep ({ frames := 5, cells := 0, slots := 0, locals := 117 } : Room)).room s m args below meth c Q g A 15 0 0 (wM g b S) [some (.ref (b 0)), some (.int x1), some (.int x2), some (.int x3), some (.int x4), some (.int x5), some (.long x6), none, some (.long x8), none, some (.int x10), none, none, none, none] [] 69 := by
  intro n_
  induction n_ with
  | zero =>
    intro x5 x6 x8 x10 S rv_ hR
    simp [f_X4_keep_L69] at hR
  | succ n_ ih =>
    intro x5 x6 x8 x10 S rv_ hR hk
    rw [f_X4_keep_L69] at hR
    refine g_iload C dX4_keep_69 rfl 71 rfl ?_
    refine g_iload_n C dX4_keep_71 rfl 72 rfl ?_
    refine g_icmp_gt C dX4_keep_72 hR 198 75 (by decide) rfl (fun c_72 hR => ?_) (fun c_72 hR => ?_)
    · obtain rfl := Option.some.inj hR
      refine g_lv [some (.ref (b 0)), some (.int x1), some (.int x2), some (.int x3), some (.int x4), some (.int x5), some (.long x6), none, some (.long x8), none, some (.int x10), none, none, none, none] (lvLe.sm (lvLe.sm (lvLe.sm (lvLe.sm (lvLe.sm (lvLe.sm (lvLe.sm (lvLe.nn (lvLe.sm (lvLe.nn (lvLe.sm (lvLe.nn (lvLe.nn (lvLe.nn (lvLe.nn lvLe.nil))))))))))))))) ?_
      exact hk
    · refine g_aload_n C dX4_keep_75 rfl 76 rfl ?_
      refine g_aload_n C dX4_keep_76 rfl 77 rfl ?_
      refine g_get (v := .ref (b 18)) C (hiC hiA_4) 0 rfl rfl 26 (by decide) (List.mem_cons_of_mem _ wl_81) rfl rfl dX4_keep_77 80 rfl ?_
      refine g_aload_n C dX4_keep_80 rfl 81 rfl ?_
      refine g_get (v := .int (S.1 0 1)) C (hiC hiA_4) 0 rfl rfl 10 (by decide) (List.mem_cons_of_mem _ wl_240) rfl rfl dX4_keep_81 84 rfl ?_
      refine g_aload_n C dX4_keep_84 rfl 85 rfl ?_
      refine g_get (v := .ref (b 5)) C (hiC hiA_4) 0 rfl rfl 4 (by decide) (List.mem_cons_of_mem _ wl_70) rfl rfl dX4_keep_85 88 rfl ?_
      refine g_aload_n C dX4_keep_88 rfl 89 rfl ?_
      refine g_get (v := .int (S.1 0 1)) C (hiC hiA_4) 0 rfl rfl 10 (by decide) (List.mem_cons_of_mem _ wl_240) rfl rfl dX4_keep_89 92 rfl ?_
      obtain ⟨h_92, hR⟩ := opt_n hR
      refine g_iald (f := (S.1 5)) C 5 rfl h_92 dX4_keep_92 93 rfl ?_
      refine g_bipush C dX4_keep_93 24 bp_24 95 rfl ?_
      refine g_iload C dX4_keep_95 rfl 97 rfl ?_
      refine g_imul C dX4_keep_97 98 rfl ?_
      refine g_aload_n C dX4_keep_98 rfl 99 rfl ?_
      refine g_get (v := .ref (b 2)) C (hiC hiA_4) 0 rfl rfl 1 (by decide) (List.mem_cons_of_mem _ wl_67) rfl rfl dX4_keep_99 102 rfl ?_
      refine g_aload_n C dX4_keep_102 rfl 103 rfl ?_
      refine g_get (v := .int (S.1 0 1)) C (hiC hiA_4) 0 rfl rfl 10 (by decide) (List.mem_cons_of_mem _ wl_240) rfl rfl dX4_keep_103 106 rfl ?_
      obtain ⟨h_106, hR⟩ := opt_n hR
      refine g_iald (f := (S.1 2)) C 2 rfl h_106 dX4_keep_106 107 rfl ?_
      refine g_callIR C (rn_S C (k_X4_coldOf l g ((S.1 2) (Int32.toNatClampNeg (S.1 0 1)))) (va_cwS 1 C.1.2.2.2.2 (gdS wl_265 wl_263 wl_264 wl_5) rfl rfl rfl hd_X4_coldOf.2 ⟨Nat.le_of_ble_eq_true rfl, Nat.le_of_ble_eq_true rfl⟩) [] rfl rfl rfl rfl (Nat.le_of_ble_eq_true rfl) ⟨Nat.zero_le _, Nat.zero_le _⟩ dX4_keep_107) 110 rfl ?_
      refine g_imul C dX4_keep_110 111 rfl ?_
      refine g_iadd C dX4_keep_111 112 rfl ?_
      refine g_callIR C (rn_S C (k_X4_heldPoints l g (((S.1 5) (Int32.toNatClampNeg (S.1 0 1))) + ((24 * x10) * (f_X4_coldOf ((S.1 2) (Int32.toNatClampNeg (S.1 0 1))))))) (va_cwS 1 C.1.2.2.2.2 (gdS wl_272 wl_270 wl_271 wl_5) rfl rfl rfl hd_X4_heldPoints.2 ⟨Nat.le_of_ble_eq_true rfl, Nat.le_of_ble_eq_true rfl⟩) [] rfl rfl rfl rfl (Nat.le_of_ble_eq_true rfl) ⟨Nat.zero_le _, Nat.zero_le _⟩ dX4_keep_112) 115 rfl ?_
      obtain ⟨v12, hv12, hR⟩ := opt_b hR
      refine g_callV C (rn_V C (k_X4_laysWeights_1 l g b S (S.1 0 1) (f_X4_heldPoints (((S.1 5) (Int32.toNatClampNeg (S.1 0 1))) + ((24 * x10) * (f_X4_coldOf ((S.1 2) (Int32.toNatClampNeg (S.1 0 1))))))) N_ v12 hv12) (cwV 3 C.1.2.2.2.2 (gdV wl_780 wl_777 wl_778 wl_779 wl_5) rfl rfl rfl hd_X4_laysWeights ⟨Nat.le_of_ble_eq_true rfl, Nat.le_of_ble_eq_true rfl⟩) 0 rfl rfl _ rg_C rg_n rfl rfl (Nat.le_of_ble_eq_true rfl) ⟨Nat.zero_le _, Nat.zero_le _⟩ dX4_keep_115) (wM g b v12) (rg_put (wM_len.trans wM_len.symm)) (rg_len (wM_len.trans wM_len.symm)) 118 rfl ?_
      refine g_aload_n C dX4_keep_118 rfl 119 rfl ?_
      obtain ⟨v13, hv13, hR⟩ := opt_b hR
      refine g_callLR C (rn_V C (k_X4_allParts l g b v12 N_ v13 hv13) (cwV 0 C.1.2.2.2.2 (gdV wl_688 wl_685 wl_686 wl_687 wl_5) rfl rfl rfl hd_X4_allParts ⟨Nat.le_of_ble_eq_true rfl, Nat.le_of_ble_eq_true rfl⟩) 0 rfl rfl _ rg_C rg_n rfl rfl (Nat.le_of_ble_eq_true rfl) ⟨Nat.zero_le _, Nat.zero_le _⟩ dX4_keep_119) 122 rfl ?_
      refine g_lstore C dX4_keep_122 [_, _, _, _, _, _, _, _, _, _, _, _, _, _, _] (Nat.le_of_ble_eq_true rfl) rfl rfl 124 rfl ?_
      refine g_aload_n C dX4_keep_124 rfl 125 rfl ?_
      refine g_aload_n C dX4_keep_125 rfl 126 rfl ?_
      refine g_get (v := .ref (b 18)) C (hiC hiA_4) 0 rfl rfl 26 (by decide) (List.mem_cons_of_mem _ wl_81) rfl rfl dX4_keep_126 129 rfl ?_
      refine g_iload_n C dX4_keep_129 rfl 130 rfl ?_
      obtain ⟨v14, hv14, hR⟩ := opt_b hR
      refine g_callLR C (rn_V C (k_X4_bestNet_1 l g b v12 x1 N_ v14 hv14) (cwV 2 C.1.2.2.2.2 (gdV wl_609 wl_606 wl_607 wl_608 wl_5) rfl rfl rfl hd_X4_bestNet ⟨Nat.le_of_ble_eq_true rfl, Nat.le_of_ble_eq_true rfl⟩) 0 rfl rfl _ rg_C rg_n rfl rfl (Nat.le_of_ble_eq_true rfl) ⟨Nat.zero_le _, Nat.zero_le _⟩ dX4_keep_130) 133 rfl ?_
      refine g_aload_n C dX4_keep_133 rfl 134 rfl ?_
      refine g_get (v := .ref (b 4)) C (hiC hiA_4) 0 rfl rfl 3 (by decide) (List.mem_cons_of_mem _ wl_69) rfl rfl dX4_keep_134 137 rfl ?_
      refine g_aload_n C dX4_keep_137 rfl 138 rfl ?_
      refine g_get (v := .int (v12.1 0 1)) C (hiC hiA_4) 0 rfl rfl 10 (by decide) (List.mem_cons_of_mem _ wl_240) rfl rfl dX4_keep_138 141 rfl ?_
      obtain ⟨h_141, hR⟩ := opt_n hR
      refine g_iald (f := (v12.1 4)) C 4 rfl h_141 dX4_keep_141 142 rfl ?_
      refine g_i2l C dX4_keep_142 143 rfl ?_
      refine g_lmul C dX4_keep_143 144 rfl ?_
      refine g_lload C dX4_keep_144 rfl 146 rfl ?_
      refine g_iload_n C dX4_keep_146 rfl 147 rfl ?_
      refine g_i2l C dX4_keep_147 148 rfl ?_
      refine g_lmul C dX4_keep_148 149 rfl ?_
      refine g_iload C dX4_keep_149 rfl 151 rfl ?_
      refine g_i2l C dX4_keep_151 152 rfl ?_
      refine g_lmul C dX4_keep_152 153 rfl ?_
      refine g_lsub C dX4_keep_153 154 rfl ?_
      obtain ⟨v15, hv15, hR⟩ := opt_b hR
      refine g_topL (Option.some.inj hv15) ?_
      refine g_lstore C dX4_keep_154 [_, _, _, _, _, _, _, _, _, _, _, _, _, _, _] (Nat.le_of_ble_eq_true rfl) rfl rfl 156 rfl ?_
      refine g_lload C dX4_keep_156 rfl 158 rfl ?_
      refine g_lconst C dX4_keep_158 0 (by decide) 159 rfl ?_
      refine g_lcmp C dX4_keep_159 160 rfl ?_
      refine g_if_le C dX4_keep_160 hR 180 163 (by decide) rfl (fun c_160 hR => ?_) (fun c_160 hR => ?_)
      · refine g_iload C dX4_keep_180 rfl 182 rfl ?_
        refine g_istore C dX4_keep_182 [_, _, _, _, _, _, _, _, _, _, _, _, _, _, _] (Nat.le_of_ble_eq_true rfl) rfl rfl 184 rfl ?_
        refine g_lload C dX4_keep_184 rfl 186 rfl ?_
        refine g_lstore C dX4_keep_186 [_, _, _, _, _, _, _, _, _, _, _, _, _, _, _] (Nat.le_of_ble_eq_true rfl) rfl rfl 188 rfl ?_
        refine g_lload C dX4_keep_188 rfl 190 rfl ?_
        refine g_lstore C dX4_keep_190 [_, _, _, _, _, _, _, _, _, _, _, _, _, _, _] (Nat.le_of_ble_eq_true rfl) rfl rfl 192 rfl ?_
        refine g_iinc C dX4_keep_192 rfl 1 ic_1 [_, _, _, _, _, _, _, _, _, _, _, _, _, _, _] (Nat.le_of_ble_eq_true rfl) rfl rfl 195 rfl ?_
        refine g_goto C dX4_keep_195 69 (by decide) ?_
        refine g_lv [some (.ref (b 0)), some (.int x1), some (.int x2), some (.int x3), some (.int x4), some (.int x10), some (.long v15), none, some (.long v13), none, some (.int (x10 + 1)), none, none, none, none] (lvLe.sm (lvLe.sm (lvLe.sm (lvLe.sm (lvLe.sm (lvLe.sm (lvLe.sm (lvLe.nn (lvLe.sm (lvLe.nn (lvLe.sm (lvLe.nn (lvLe.nn (lvLe.nn (lvLe.nn lvLe.nil))))))))))))))) ?_
        exact ih _ _ _ _ _ rv_ hR hk
      · refine g_lload C dX4_keep_163 rfl 165 rfl ?_
        refine g_lload C dX4_keep_165 rfl 167 rfl ?_
        refine g_lmul C dX4_keep_167 168 rfl ?_
        refine g_lload C dX4_keep_168 rfl 170 rfl ?_
        refine g_lload C dX4_keep_170 rfl 172 rfl ?_
        refine g_lmul C dX4_keep_172 173 rfl ?_
        refine g_lcmp C dX4_keep_173 174 rfl ?_
        refine g_if_gt C dX4_keep_174 hR 180 177 (by decide) rfl (fun c_174 hR => ?_) (fun c_174 hR => ?_)
        · refine g_iload C dX4_keep_180 rfl 182 rfl ?_
          refine g_istore C dX4_keep_182 [_, _, _, _, _, _, _, _, _, _, _, _, _, _, _] (Nat.le_of_ble_eq_true rfl) rfl rfl 184 rfl ?_
          refine g_lload C dX4_keep_184 rfl 186 rfl ?_
          refine g_lstore C dX4_keep_186 [_, _, _, _, _, _, _, _, _, _, _, _, _, _, _] (Nat.le_of_ble_eq_true rfl) rfl rfl 188 rfl ?_
          refine g_lload C dX4_keep_188 rfl 190 rfl ?_
          refine g_lstore C dX4_keep_190 [_, _, _, _, _, _, _, _, _, _, _, _, _, _, _] (Nat.le_of_ble_eq_true rfl) rfl rfl 192 rfl ?_
          refine g_iinc C dX4_keep_192 rfl 1 ic_1 [_, _, _, _, _, _, _, _, _, _, _, _, _, _, _] (Nat.le_of_ble_eq_true rfl) rfl rfl 195 rfl ?_
          refine g_goto C dX4_keep_195 69 (by decide) ?_
          refine g_lv [some (.ref (b 0)), some (.int x1), some (.int x2), some (.int x3), some (.int x4), some (.int x10), some (.long v15), none, some (.long v13), none, some (.int (x10 + 1)), none, none, none, none] (lvLe.sm (lvLe.sm (lvLe.sm (lvLe.sm (lvLe.sm (lvLe.sm (lvLe.sm (lvLe.nn (lvLe.sm (lvLe.nn (lvLe.sm (lvLe.nn (lvLe.nn (lvLe.nn (lvLe.nn lvLe.nil))))))))))))))) ?_
          exact ih _ _ _ _ _ rv_ hR hk
        · refine g_goto C dX4_keep_177 192 (by decide) ?_
          refine g_iinc C dX4_keep_192 rfl 1 ic_1 [_, _, _, _, _, _, _, _, _, _, _, _, _, _, _] (Nat.le_of_ble_eq_true rfl) rfl rfl 195 rfl ?_
          refine g_goto C dX4_keep_195 69 (by decide) ?_
          refine g_lv [some (.ref (b 0)), some (.int x1), some (.int x2), some (.int x3), some (.int x4), some (.int x5), some (.long x6), none, some (.long x8), none, some (.int (x10 + 1)), none, none, none, none] (lvLe.sm (lvLe.sm (lvLe.sm (lvLe.sm (lvLe.sm (lvLe.sm (lvLe.sm (lvLe.nn (lvLe.sm (lvLe.nn (lvLe.sm (lvLe.nn (lvLe.nn (lvLe.nn (lvLe.nn lvLe.nil))))))))))))))) ?_
          exact ih _ _ _ _ _ rv_ hR hk
def f_X4_keep (S : (Nat → Nat → Int32) × (Nat → Nat → Int64)) (p0 : Int32) (p1 : Int32) (p2 : Int32) (N_ : Nat) : Option (Int32 × ((Nat → Nat → Int32) × (Nat → Nat → Int64))) :=
  if (f_X4_notBest S p0) = 0 then
    if p1 < 0 then
      (f_X4_no S (-4) N_).bind fun v2 =>
      some (v2.1, v2.2)
    else
      if 0 ≤ p2 then
        if 7 < p1 then
          (f_X4_no S (-6) N_).bind fun v3 =>
          some (v3.1, v3.2)
        else
          if p2 ≤ 9 then
            (f_X4_keep_L69 p0 p1 p2 N_ N_ 0 0 0 0 S).bind fun v16 =>
            some (v16.1, v16.2.2.2.2)
          else
            (f_X4_no S (-6) N_).bind fun v17 =>
            some (v17.1, v17.2)
      else
        (f_X4_no S (-4) N_).bind fun v18 =>
        some (v18.1, v18.2)
  else
    (f_X4_no S (f_X4_notBest S p0) N_).bind fun v1 =>
    some (v1.1, v1.2)
set_option maxRecDepth 100000 in
set_option maxHeartbeats 4000000 in
theorem k_X4_keep (l : Launch) (g : gE) (b : Nat → Nat) (S : (Nat → Nat → Int32) × (Nat → Nat → Int64)) (p0 : Int32) (p1 : Int32) (p2 : Int32) (N_ : Nat) (R_ : Int32 × ((Nat → Nat → Int32) × (Nat → Nat → Int64))) (hR : f_X4_keep S p0 p1 p2 N_ = some R_) : FnI l g yX4_keep wA_X4_keep { frames := 5, cells := 0, slots := 0, locals := 117 } [.ref (b 0), .int p0, .int p1, .int p2] (wM g b S) R_.1 (wM g b R_.2) := by
  refine fEntry (As := [.ref (b 0), .int p0, .int p1, .int p2]) (maxL := 15) (ret := (some .int)) (by decide) rfl [some (.ref (b 0)), some (.int p0), some (.int p1), some (.int p2), none, none, none, none, none, none, none, none, none, none, none] (Nat.le_of_ble_eq_true rfl) (lvInB.to (lvInB.sm (lvInB.sm (lvInB.sm (lvInB.sm (lvInB.nn (lvInB.nn (lvInB.nn (lvInB.nn (lvInB.nn (lvInB.nn (lvInB.nn (lvInB.nn (lvInB.nn (lvInB.nn (lvInB.nn lvInB.nil)))))))))))))))) ?_
  intro p e s m below meth c A C hr hlocks hname hA
  have C : Cx p s m _ c g A cX4_keep 15 wA_X4_keep RX4 := C
  rw [f_X4_keep] at hR
  refine g_aload_n C dX4_keep_0 rfl 1 rfl ?_
  refine g_iload_n C dX4_keep_1 rfl 2 rfl ?_
  refine g_callIR C (rn_V C (k_X4_notBest l g b S p0) (cwV 1 C.1.2.2.2.2 (gdV wl_558 wl_555 wl_556 wl_557 wl_5) rfl rfl rfl hd_X4_notBest ⟨Nat.le_of_ble_eq_true rfl, Nat.le_of_ble_eq_true rfl⟩) 0 rfl rfl _ rg_C rg_n rfl rfl (Nat.le_of_ble_eq_true rfl) ⟨Nat.zero_le _, Nat.zero_le _⟩ dX4_keep_2) 5 rfl ?_
  refine g_istore C dX4_keep_5 [_, _, _, _, _, _, _, _, _, _, _, _, _, _, _] (Nat.le_of_ble_eq_true rfl) rfl rfl 7 rfl ?_
  refine g_iload C dX4_keep_7 rfl 9 rfl ?_
  refine g_if_ne C dX4_keep_9 hR 45 12 (by decide) rfl (fun c_9 hR => ?_) (fun c_9 hR => ?_)
  · refine g_iload C dX4_keep_45 rfl 47 rfl ?_
    refine g_if_eqF C dX4_keep_47 c_9 57 50 (by decide) rfl ?_
    refine g_aload_n C dX4_keep_50 rfl 51 rfl ?_
    refine g_iload C dX4_keep_51 rfl 53 rfl ?_
    obtain ⟨v1, hv1, hR⟩ := opt_b hR
    refine g_callI C (rn_V C (k_X4_no l g b S (f_X4_notBest S p0) N_ v1 hv1) (cwV 1 C.1.2.2.2.2 (gdV wl_111 wl_108 wl_109 wl_110 wl_5) rfl rfl rfl hd_X4_no ⟨Nat.le_of_ble_eq_true rfl, Nat.le_of_ble_eq_true rfl⟩) 0 rfl rfl _ rg_C rg_n rfl rfl (Nat.le_of_ble_eq_true rfl) ⟨Nat.zero_le _, Nat.zero_le _⟩ dX4_keep_53) (wM g b v1.2) (rg_put (wM_len.trans wM_len.symm)) (rg_len (wM_len.trans wM_len.symm)) 56 rfl ?_
    obtain rfl := Option.some.inj hR
    exact g_iret C hr hlocks hA (by first | (dsimp only; done) | rfl) (by first | (dsimp only; done) | rfl) dX4_keep_56
  · refine g_iload_n C dX4_keep_12 rfl 13 rfl ?_
    refine g_if_lt C dX4_keep_13 hR 20 16 (by decide) rfl (fun c_13 hR => ?_) (fun c_13 hR => ?_)
    · refine g_bipush C dX4_keep_20 (-4) bp_m4 22 rfl ?_
      refine g_goto C dX4_keep_22 43 (by decide) ?_
      refine g_istore C dX4_keep_43 [_, _, _, _, _, _, _, _, _, _, _, _, _, _, _] (Nat.le_of_ble_eq_true rfl) rfl rfl 45 rfl ?_
      refine g_iload C dX4_keep_45 rfl 47 rfl ?_
      refine g_if_eqF C dX4_keep_47 (by decide) 57 50 (by decide) rfl ?_
      refine g_aload_n C dX4_keep_50 rfl 51 rfl ?_
      refine g_iload C dX4_keep_51 rfl 53 rfl ?_
      obtain ⟨v2, hv2, hR⟩ := opt_b hR
      refine g_callI C (rn_V C (k_X4_no l g b S (-4) N_ v2 hv2) (cwV 1 C.1.2.2.2.2 (gdV wl_111 wl_108 wl_109 wl_110 wl_5) rfl rfl rfl hd_X4_no ⟨Nat.le_of_ble_eq_true rfl, Nat.le_of_ble_eq_true rfl⟩) 0 rfl rfl _ rg_C rg_n rfl rfl (Nat.le_of_ble_eq_true rfl) ⟨Nat.zero_le _, Nat.zero_le _⟩ dX4_keep_53) (wM g b v2.2) (rg_put (wM_len.trans wM_len.symm)) (rg_len (wM_len.trans wM_len.symm)) 56 rfl ?_
      obtain rfl := Option.some.inj hR
      exact g_iret C hr hlocks hA (by first | (dsimp only; done) | rfl) (by first | (dsimp only; done) | rfl) dX4_keep_56
    · refine g_iload_n C dX4_keep_16 rfl 17 rfl ?_
      refine g_if_ge C dX4_keep_17 hR 25 20 (by decide) rfl (fun c_17 hR => ?_) (fun c_17 hR => ?_)
      · refine g_iload_n C dX4_keep_25 rfl 26 rfl ?_
        refine g_bipush C dX4_keep_26 7 bp_7 28 rfl ?_
        refine g_icmp_gt C dX4_keep_28 hR 37 31 (by decide) rfl (fun c_28 hR => ?_) (fun c_28 hR => ?_)
        · refine g_bipush C dX4_keep_37 (-6) bp_m6 39 rfl ?_
          refine g_goto C dX4_keep_39 43 (by decide) ?_
          refine g_istore C dX4_keep_43 [_, _, _, _, _, _, _, _, _, _, _, _, _, _, _] (Nat.le_of_ble_eq_true rfl) rfl rfl 45 rfl ?_
          refine g_iload C dX4_keep_45 rfl 47 rfl ?_
          refine g_if_eqF C dX4_keep_47 (by decide) 57 50 (by decide) rfl ?_
          refine g_aload_n C dX4_keep_50 rfl 51 rfl ?_
          refine g_iload C dX4_keep_51 rfl 53 rfl ?_
          obtain ⟨v3, hv3, hR⟩ := opt_b hR
          refine g_callI C (rn_V C (k_X4_no l g b S (-6) N_ v3 hv3) (cwV 1 C.1.2.2.2.2 (gdV wl_111 wl_108 wl_109 wl_110 wl_5) rfl rfl rfl hd_X4_no ⟨Nat.le_of_ble_eq_true rfl, Nat.le_of_ble_eq_true rfl⟩) 0 rfl rfl _ rg_C rg_n rfl rfl (Nat.le_of_ble_eq_true rfl) ⟨Nat.zero_le _, Nat.zero_le _⟩ dX4_keep_53) (wM g b v3.2) (rg_put (wM_len.trans wM_len.symm)) (rg_len (wM_len.trans wM_len.symm)) 56 rfl ?_
          obtain rfl := Option.some.inj hR
          exact g_iret C hr hlocks hA (by first | (dsimp only; done) | rfl) (by first | (dsimp only; done) | rfl) dX4_keep_56
        · refine g_iload_n C dX4_keep_31 rfl 32 rfl ?_
          refine g_bipush C dX4_keep_32 9 bp_9 34 rfl ?_
          refine g_icmp_le C dX4_keep_34 hR 42 37 (by decide) rfl (fun c_34 hR => ?_) (fun c_34 hR => ?_)
          · refine g_iconst C dX4_keep_42 0 ic_0 43 rfl ?_
            refine g_istore C dX4_keep_43 [_, _, _, _, _, _, _, _, _, _, _, _, _, _, _] (Nat.le_of_ble_eq_true rfl) rfl rfl 45 rfl ?_
            refine g_iload C dX4_keep_45 rfl 47 rfl ?_
            refine g_if_eqT C dX4_keep_47 (by decide) 57 (by decide) ?_
            refine g_iconst C dX4_keep_57 0 ic_0 58 rfl ?_
            refine g_istore C dX4_keep_58 [_, _, _, _, _, _, _, _, _, _, _, _, _, _, _] (Nat.le_of_ble_eq_true rfl) rfl rfl 60 rfl ?_
            refine g_lconst C dX4_keep_60 0 (by decide) 61 rfl ?_
            refine g_lstore C dX4_keep_61 [_, _, _, _, _, _, _, _, _, _, _, _, _, _, _] (Nat.le_of_ble_eq_true rfl) rfl rfl 63 rfl ?_
            refine g_lconst C dX4_keep_63 0 (by decide) 64 rfl ?_
            refine g_lstore C dX4_keep_64 [_, _, _, _, _, _, _, _, _, _, _, _, _, _, _] (Nat.le_of_ble_eq_true rfl) rfl rfl 66 rfl ?_
            refine g_iconst C dX4_keep_66 0 ic_0 67 rfl ?_
            refine g_istore C dX4_keep_67 [_, _, _, _, _, _, _, _, _, _, _, _, _, _, _] (Nat.le_of_ble_eq_true rfl) rfl rfl 69 rfl ?_
            refine g_lv [some (.ref (b 0)), some (.int p0), some (.int p1), some (.int p2), some (.int 0), some (.int 0), some (.long 0), none, some (.long 0), none, some (.int 0), none, none, none, none] (lvLe.sm (lvLe.sm (lvLe.sm (lvLe.sm (lvLe.sm (lvLe.sm (lvLe.sm (lvLe.nn (lvLe.sm (lvLe.nn (lvLe.sm (lvLe.nn (lvLe.nn (lvLe.nn (lvLe.nn lvLe.nil))))))))))))))) ?_
            obtain ⟨v16, hv16, hR⟩ := opt_b hR
            refine k_X4_keep_L69 l g C N_ p0 p1 p2 0 N_ 0 0 0 0 S _ hv16 ?_
            refine g_iload C dX4_keep_198 rfl 200 rfl ?_
            obtain rfl := Option.some.inj hR
            exact g_iret C hr hlocks hA (by first | (dsimp only; done) | rfl) (by first | (dsimp only; done) | rfl) dX4_keep_200
          · refine g_bipush C dX4_keep_37 (-6) bp_m6 39 rfl ?_
            refine g_goto C dX4_keep_39 43 (by decide) ?_
            refine g_istore C dX4_keep_43 [_, _, _, _, _, _, _, _, _, _, _, _, _, _, _] (Nat.le_of_ble_eq_true rfl) rfl rfl 45 rfl ?_
            refine g_iload C dX4_keep_45 rfl 47 rfl ?_
            refine g_if_eqF C dX4_keep_47 (by decide) 57 50 (by decide) rfl ?_
            refine g_aload_n C dX4_keep_50 rfl 51 rfl ?_
            refine g_iload C dX4_keep_51 rfl 53 rfl ?_
            obtain ⟨v17, hv17, hR⟩ := opt_b hR
            refine g_callI C (rn_V C (k_X4_no l g b S (-6) N_ v17 hv17) (cwV 1 C.1.2.2.2.2 (gdV wl_111 wl_108 wl_109 wl_110 wl_5) rfl rfl rfl hd_X4_no ⟨Nat.le_of_ble_eq_true rfl, Nat.le_of_ble_eq_true rfl⟩) 0 rfl rfl _ rg_C rg_n rfl rfl (Nat.le_of_ble_eq_true rfl) ⟨Nat.zero_le _, Nat.zero_le _⟩ dX4_keep_53) (wM g b v17.2) (rg_put (wM_len.trans wM_len.symm)) (rg_len (wM_len.trans wM_len.symm)) 56 rfl ?_
            obtain rfl := Option.some.inj hR
            exact g_iret C hr hlocks hA (by first | (dsimp only; done) | rfl) (by first | (dsimp only; done) | rfl) dX4_keep_56
      · refine g_bipush C dX4_keep_20 (-4) bp_m4 22 rfl ?_
        refine g_goto C dX4_keep_22 43 (by decide) ?_
        refine g_istore C dX4_keep_43 [_, _, _, _, _, _, _, _, _, _, _, _, _, _, _] (Nat.le_of_ble_eq_true rfl) rfl rfl 45 rfl ?_
        refine g_iload C dX4_keep_45 rfl 47 rfl ?_
        refine g_if_eqF C dX4_keep_47 (by decide) 57 50 (by decide) rfl ?_
        refine g_aload_n C dX4_keep_50 rfl 51 rfl ?_
        refine g_iload C dX4_keep_51 rfl 53 rfl ?_
        obtain ⟨v18, hv18, hR⟩ := opt_b hR
        refine g_callI C (rn_V C (k_X4_no l g b S (-4) N_ v18 hv18) (cwV 1 C.1.2.2.2.2 (gdV wl_111 wl_108 wl_109 wl_110 wl_5) rfl rfl rfl hd_X4_no ⟨Nat.le_of_ble_eq_true rfl, Nat.le_of_ble_eq_true rfl⟩) 0 rfl rfl _ rg_C rg_n rfl rfl (Nat.le_of_ble_eq_true rfl) ⟨Nat.zero_le _, Nat.zero_le _⟩ dX4_keep_53) (wM g b v18.2) (rg_put (wM_len.trans wM_len.symm)) (rg_len (wM_len.trans wM_len.symm)) 56 rfl ?_
        obtain rfl := Option.some.inj hR
        exact g_iret C hr hlocks hA (by first | (dsimp only; done) | rfl) (by first | (dsimp only; done) | rfl) dX4_keep_56
theorem hd_X4_seldom : yX4_seldom.cls = RX4 ∧ yX4_seldom.cls ≠ "java/lang/invoke/MethodHandle" ∧ yX4_seldom.cls ≠ "java/lang/invoke/VarHandle" ∧ (parseMethodDescriptor yX4_seldom.desc).map (fun d => d.parameters.length) = some 2 := by decide +kernel
def f_X4_seldom_L39 (x1 : Int32) (x2 : Int32) (S : (Nat → Nat → Int32) × (Nat → Nat → Int64)) (N_ : Nat) : Nat → Int32 → Int32 → Option (Int32 × Int32)
  | 0, _, _ => none
  | n_ + 1, x4, x5 =>
    if 5 ≤ x5 then
      some (x4, x5)
    else
      (f_X4_harmParts S x5 N_).bind fun v11 =>
      (f_X4_allThought S N_).bind fun v12 =>
      if (lg_cmp (100 * v11) ((Int32.toInt64 x2) * v12)) ≤ 0 then
        if x4 < 0 then
          f_X4_seldom_L39 x1 x2 S N_ n_ x5 (x5 + 1)
        else
          (f_X4_netBy_0 S x5 x1 N_).bind fun v13 =>
          (f_X4_netBy_0 S x4 x1 N_).bind fun v14 =>
          if (lg_cmp v13 v14) ≤ 0 then
            f_X4_seldom_L39 x1 x2 S N_ n_ x4 (x5 + 1)
          else
            f_X4_seldom_L39 x1 x2 S N_ n_ x5 (x5 + 1)
      else
        f_X4_seldom_L39 x1 x2 S N_ n_ x4 (x5 + 1)
set_option maxRecDepth 100000 in
set_option maxHeartbeats 4000000 in
theorem k_X4_seldom_L39 (l : Launch) (g : gE) {p : Program} {e : Env} {s : State} {m : MethodId} {args : Array Value} {below : List Frame} {meth : Method} {c : Code} {Q : State → Prop} {A : Nat → Prop} {b : Nat → Nat}  (C : Cx p s m args c g A cX4_seldom 6 wA_X4_seldom RX4) (N_ : Nat) (x1 : Int32) (x2 : Int32) (x3 : Int32) (S : (Nat → Nat → Int32) × (Nat → Nat → Int64)) : ∀ (n_ : Nat) (x4 : Int32) (x5 : Int32) (rv_ : Int32 × Int32), f_X4_seldom_L39 x1 x2 S N_ n_ x4 x5 = some rv_ → (Gm p l e (headSpec wA_X4_seldom ({ frames := 3, cells := 0, slots := 0, locals := 71 } : Room)).room s m args below meth c Q g A 6 0 0 (wM g b S) [some (.ref (b 0)), some (.int x1), some (.int x2), some (.int x3), some (.int rv_.1), some (.int rv_.2)] [] 110) → Gm p l e (headSpec wA_X4_seldom ({ frames := 3, cells := 0, slots := 0, locals := 71 } : Room)).room s m args below meth c Q g A 6 0 0 (wM g b S) [some (.ref (b 0)), some (.int x1), some (.int x2), some (.int x3), some (.int x4), some (.int x5)] [] 39 := by
  intro n_
  induction n_ with
  | zero =>
    intro x4 x5 rv_ hR
    simp [f_X4_seldom_L39] at hR
  | succ n_ ih =>
    intro x4 x5 rv_ hR hk
    rw [f_X4_seldom_L39] at hR
    refine g_iload C dX4_seldom_39 rfl 41 rfl ?_
    refine g_iconst C dX4_seldom_41 5 ic_5 42 rfl ?_
    refine g_icmp_ge C dX4_seldom_42 hR 110 45 (by decide) rfl (fun c_42 hR => ?_) (fun c_42 hR => ?_)
    · obtain rfl := Option.some.inj hR
      refine g_lv [some (.ref (b 0)), some (.int x1), some (.int x2), some (.int x3), some (.int x4), some (.int x5)] (lvLe.sm (lvLe.sm (lvLe.sm (lvLe.sm (lvLe.sm (lvLe.sm lvLe.nil)))))) ?_
      exact hk
    · refine g_ldc2 C dX4_seldom_45 (C.1.2.2.2.2 _ (List.mem_cons_of_mem _ wl_646)) 48 rfl ?_
      refine g_aload_n C dX4_seldom_48 rfl 49 rfl ?_
      refine g_iload C dX4_seldom_49 rfl 51 rfl ?_
      obtain ⟨v11, hv11, hR⟩ := opt_b hR
      refine g_callLR C (rn_V C (k_X4_harmParts l g b S x5 N_ v11 hv11) (cwV 1 C.1.2.2.2.2 (gdV wl_581 wl_578 wl_579 wl_580 wl_5) rfl rfl rfl hd_X4_harmParts ⟨Nat.le_of_ble_eq_true rfl, Nat.le_of_ble_eq_true rfl⟩) 0 rfl rfl _ rg_C rg_n rfl rfl (Nat.le_of_ble_eq_true rfl) ⟨Nat.zero_le _, Nat.zero_le _⟩ dX4_seldom_51) 54 rfl ?_
      refine g_lmul C dX4_seldom_54 55 rfl ?_
      refine g_iload_n C dX4_seldom_55 rfl 56 rfl ?_
      refine g_i2l C dX4_seldom_56 57 rfl ?_
      refine g_aload_n C dX4_seldom_57 rfl 58 rfl ?_
      obtain ⟨v12, hv12, hR⟩ := opt_b hR
      refine g_callLR C (rn_V C (k_X4_allThought l g b S N_ v12 hv12) (cwV 0 C.1.2.2.2.2 (gdV wl_492 wl_489 wl_490 wl_491 wl_5) rfl rfl rfl hd_X4_allThought ⟨Nat.le_of_ble_eq_true rfl, Nat.le_of_ble_eq_true rfl⟩) 0 rfl rfl _ rg_C rg_n rfl rfl (Nat.le_of_ble_eq_true rfl) ⟨Nat.zero_le _, Nat.zero_le _⟩ dX4_seldom_58) 61 rfl ?_
      refine g_lmul C dX4_seldom_61 62 rfl ?_
      refine g_lcmp C dX4_seldom_62 63 rfl ?_
      refine g_if_le C dX4_seldom_63 hR 69 66 (by decide) rfl (fun c_63 hR => ?_) (fun c_63 hR => ?_)
      · refine g_iload C dX4_seldom_69 rfl 71 rfl ?_
        refine g_if_lt C dX4_seldom_71 hR 100 74 (by decide) rfl (fun c_71 hR => ?_) (fun c_71 hR => ?_)
        · refine g_iload C dX4_seldom_100 rfl 102 rfl ?_
          refine g_istore C dX4_seldom_102 [_, _, _, _, _, _] (Nat.le_of_ble_eq_true rfl) rfl rfl 104 rfl ?_
          refine g_iinc C dX4_seldom_104 rfl 1 ic_1 [_, _, _, _, _, _] (Nat.le_of_ble_eq_true rfl) rfl rfl 107 rfl ?_
          refine g_goto C dX4_seldom_107 39 (by decide) ?_
          refine g_lv [some (.ref (b 0)), some (.int x1), some (.int x2), some (.int x3), some (.int x5), some (.int (x5 + 1))] (lvLe.sm (lvLe.sm (lvLe.sm (lvLe.sm (lvLe.sm (lvLe.sm lvLe.nil)))))) ?_
          exact ih _ _ rv_ hR hk
        · refine g_aload_n C dX4_seldom_74 rfl 75 rfl ?_
          refine g_aload_n C dX4_seldom_75 rfl 76 rfl ?_
          refine g_get (v := .ref (b 17)) C (hiC hiA_4) 0 rfl rfl 25 (by decide) (List.mem_cons_of_mem _ wl_80) rfl rfl dX4_seldom_76 79 rfl ?_
          refine g_iload C dX4_seldom_79 rfl 81 rfl ?_
          refine g_iload_n C dX4_seldom_81 rfl 82 rfl ?_
          obtain ⟨v13, hv13, hR⟩ := opt_b hR
          refine g_callLR C (rn_V C (k_X4_netBy_0 l g b S x5 x1 N_ v13 hv13) (cwV 3 C.1.2.2.2.2 (gdV wl_528 wl_525 wl_526 wl_527 wl_5) rfl rfl rfl hd_X4_netBy ⟨Nat.le_of_ble_eq_true rfl, Nat.le_of_ble_eq_true rfl⟩) 0 rfl rfl _ rg_C rg_n rfl rfl (Nat.le_of_ble_eq_true rfl) ⟨Nat.zero_le _, Nat.zero_le _⟩ dX4_seldom_82) 85 rfl ?_
          refine g_aload_n C dX4_seldom_85 rfl 86 rfl ?_
          refine g_aload_n C dX4_seldom_86 rfl 87 rfl ?_
          refine g_get (v := .ref (b 17)) C (hiC hiA_4) 0 rfl rfl 25 (by decide) (List.mem_cons_of_mem _ wl_80) rfl rfl dX4_seldom_87 90 rfl ?_
          refine g_iload C dX4_seldom_90 rfl 92 rfl ?_
          refine g_iload_n C dX4_seldom_92 rfl 93 rfl ?_
          obtain ⟨v14, hv14, hR⟩ := opt_b hR
          refine g_callLR C (rn_V C (k_X4_netBy_0 l g b S x4 x1 N_ v14 hv14) (cwV 3 C.1.2.2.2.2 (gdV wl_528 wl_525 wl_526 wl_527 wl_5) rfl rfl rfl hd_X4_netBy ⟨Nat.le_of_ble_eq_true rfl, Nat.le_of_ble_eq_true rfl⟩) 0 rfl rfl _ rg_C rg_n rfl rfl (Nat.le_of_ble_eq_true rfl) ⟨Nat.zero_le _, Nat.zero_le _⟩ dX4_seldom_93) 96 rfl ?_
          refine g_lcmp C dX4_seldom_96 97 rfl ?_
          refine g_if_le C dX4_seldom_97 hR 104 100 (by decide) rfl (fun c_97 hR => ?_) (fun c_97 hR => ?_)
          · refine g_iinc C dX4_seldom_104 rfl 1 ic_1 [_, _, _, _, _, _] (Nat.le_of_ble_eq_true rfl) rfl rfl 107 rfl ?_
            refine g_goto C dX4_seldom_107 39 (by decide) ?_
            refine g_lv [some (.ref (b 0)), some (.int x1), some (.int x2), some (.int x3), some (.int x4), some (.int (x5 + 1))] (lvLe.sm (lvLe.sm (lvLe.sm (lvLe.sm (lvLe.sm (lvLe.sm lvLe.nil)))))) ?_
            exact ih _ _ rv_ hR hk
          · refine g_iload C dX4_seldom_100 rfl 102 rfl ?_
            refine g_istore C dX4_seldom_102 [_, _, _, _, _, _] (Nat.le_of_ble_eq_true rfl) rfl rfl 104 rfl ?_
            refine g_iinc C dX4_seldom_104 rfl 1 ic_1 [_, _, _, _, _, _] (Nat.le_of_ble_eq_true rfl) rfl rfl 107 rfl ?_
            refine g_goto C dX4_seldom_107 39 (by decide) ?_
            refine g_lv [some (.ref (b 0)), some (.int x1), some (.int x2), some (.int x3), some (.int x5), some (.int (x5 + 1))] (lvLe.sm (lvLe.sm (lvLe.sm (lvLe.sm (lvLe.sm (lvLe.sm lvLe.nil)))))) ?_
            exact ih _ _ rv_ hR hk
      · refine g_goto C dX4_seldom_66 104 (by decide) ?_
        refine g_iinc C dX4_seldom_104 rfl 1 ic_1 [_, _, _, _, _, _] (Nat.le_of_ble_eq_true rfl) rfl rfl 107 rfl ?_
        refine g_goto C dX4_seldom_107 39 (by decide) ?_
        refine g_lv [some (.ref (b 0)), some (.int x1), some (.int x2), some (.int x3), some (.int x4), some (.int (x5 + 1))] (lvLe.sm (lvLe.sm (lvLe.sm (lvLe.sm (lvLe.sm (lvLe.sm lvLe.nil)))))) ?_
        exact ih _ _ rv_ hR hk
def f_X4_seldom (S : (Nat → Nat → Int32) × (Nat → Nat → Int64)) (p0 : Int32) (p1 : Int32) (N_ : Nat) : Option (Int32 × ((Nat → Nat → Int32) × (Nat → Nat → Int64))) :=
  if (f_X4_notBest S p0) = 0 then
    if (f_X4_bound p1 0 100) = 0 then
      (f_X4_findThought S N_).bind fun v2 =>
      (f_X4_seldom_L39 p0 p1 v2 N_ N_ (-9) 0).bind fun v15 =>
      some (v15.1, v2)
    else
      (f_X4_no S (f_X4_bound p1 0 100) N_).bind fun v16 =>
      some (v16.1, v16.2)
  else
    (f_X4_no S (f_X4_notBest S p0) N_).bind fun v1 =>
    some (v1.1, v1.2)
set_option maxRecDepth 100000 in
set_option maxHeartbeats 4000000 in
theorem k_X4_seldom (l : Launch) (g : gE) (b : Nat → Nat) (S : (Nat → Nat → Int32) × (Nat → Nat → Int64)) (p0 : Int32) (p1 : Int32) (N_ : Nat) (R_ : Int32 × ((Nat → Nat → Int32) × (Nat → Nat → Int64))) (hR : f_X4_seldom S p0 p1 N_ = some R_) : FnI l g yX4_seldom wA_X4_seldom { frames := 3, cells := 0, slots := 0, locals := 71 } [.ref (b 0), .int p0, .int p1] (wM g b S) R_.1 (wM g b R_.2) := by
  refine fEntry (As := [.ref (b 0), .int p0, .int p1]) (maxL := 6) (ret := (some .int)) (by decide) rfl [some (.ref (b 0)), some (.int p0), some (.int p1), none, none, none] (Nat.le_of_ble_eq_true rfl) (lvInB.to (lvInB.sm (lvInB.sm (lvInB.sm (lvInB.nn (lvInB.nn (lvInB.nn lvInB.nil))))))) ?_
  intro p e s m below meth c A C hr hlocks hname hA
  have C : Cx p s m _ c g A cX4_seldom 6 wA_X4_seldom RX4 := C
  rw [f_X4_seldom] at hR
  refine g_aload_n C dX4_seldom_0 rfl 1 rfl ?_
  refine g_iload_n C dX4_seldom_1 rfl 2 rfl ?_
  refine g_callIR C (rn_V C (k_X4_notBest l g b S p0) (cwV 1 C.1.2.2.2.2 (gdV wl_558 wl_555 wl_556 wl_557 wl_5) rfl rfl rfl hd_X4_notBest ⟨Nat.le_of_ble_eq_true rfl, Nat.le_of_ble_eq_true rfl⟩) 0 rfl rfl _ rg_C rg_n rfl rfl (Nat.le_of_ble_eq_true rfl) ⟨Nat.zero_le _, Nat.zero_le _⟩ dX4_seldom_2) 5 rfl ?_
  refine g_istore_n C dX4_seldom_5 [_, _, _, _, _, _] (Nat.le_of_ble_eq_true rfl) rfl rfl 6 rfl ?_
  refine g_iload_n C dX4_seldom_6 rfl 7 rfl ?_
  refine g_if_ne C dX4_seldom_7 hR 18 10 (by decide) rfl (fun c_7 hR => ?_) (fun c_7 hR => ?_)
  · refine g_iload_n C dX4_seldom_18 rfl 19 rfl ?_
    refine g_if_eqF C dX4_seldom_19 c_7 28 22 (by decide) rfl ?_
    refine g_aload_n C dX4_seldom_22 rfl 23 rfl ?_
    refine g_iload_n C dX4_seldom_23 rfl 24 rfl ?_
    obtain ⟨v1, hv1, hR⟩ := opt_b hR
    refine g_callI C (rn_V C (k_X4_no l g b S (f_X4_notBest S p0) N_ v1 hv1) (cwV 1 C.1.2.2.2.2 (gdV wl_111 wl_108 wl_109 wl_110 wl_5) rfl rfl rfl hd_X4_no ⟨Nat.le_of_ble_eq_true rfl, Nat.le_of_ble_eq_true rfl⟩) 0 rfl rfl _ rg_C rg_n rfl rfl (Nat.le_of_ble_eq_true rfl) ⟨Nat.zero_le _, Nat.zero_le _⟩ dX4_seldom_24) (wM g b v1.2) (rg_put (wM_len.trans wM_len.symm)) (rg_len (wM_len.trans wM_len.symm)) 27 rfl ?_
    obtain rfl := Option.some.inj hR
    exact g_iret C hr hlocks hA (by first | (dsimp only; done) | rfl) (by first | (dsimp only; done) | rfl) dX4_seldom_27
  · refine g_iload_n C dX4_seldom_10 rfl 11 rfl ?_
    refine g_iconst C dX4_seldom_11 0 ic_0 12 rfl ?_
    refine g_bipush C dX4_seldom_12 100 bp_100 14 rfl ?_
    refine g_callIR C (rn_S C (k_X4_bound l g p1 0 100) (va_cwS 3 C.1.2.2.2.2 (gdS wl_107 wl_105 wl_106 wl_5) rfl rfl rfl hd_X4_bound.2 ⟨Nat.le_of_ble_eq_true rfl, Nat.le_of_ble_eq_true rfl⟩) [] rfl rfl rfl rfl (Nat.le_of_ble_eq_true rfl) ⟨Nat.zero_le _, Nat.zero_le _⟩ dX4_seldom_14) 17 rfl ?_
    refine g_istore_n C dX4_seldom_17 [_, _, _, _, _, _] (Nat.le_of_ble_eq_true rfl) rfl rfl 18 rfl ?_
    refine g_iload_n C dX4_seldom_18 rfl 19 rfl ?_
    refine g_if_eq C dX4_seldom_19 hR 28 22 (by decide) rfl (fun c_19 hR => ?_) (fun c_19 hR => ?_)
    · refine g_aload_n C dX4_seldom_28 rfl 29 rfl ?_
      obtain ⟨v2, hv2, hR⟩ := opt_b hR
      refine g_callV C (rn_V C (k_X4_findThought l g b S N_ v2 hv2) (cwV 0 C.1.2.2.2.2 (gdV wl_467 wl_464 wl_465 wl_466 wl_5) rfl rfl rfl hd_X4_findThought ⟨Nat.le_of_ble_eq_true rfl, Nat.le_of_ble_eq_true rfl⟩) 0 rfl rfl _ rg_C rg_n rfl rfl (Nat.le_of_ble_eq_true rfl) ⟨Nat.zero_le _, Nat.zero_le _⟩ dX4_seldom_29) (wM g b v2) (rg_put (wM_len.trans wM_len.symm)) (rg_len (wM_len.trans wM_len.symm)) 32 rfl ?_
      refine g_bipush C dX4_seldom_32 (-9) bp_m9 34 rfl ?_
      refine g_istore C dX4_seldom_34 [_, _, _, _, _, _] (Nat.le_of_ble_eq_true rfl) rfl rfl 36 rfl ?_
      refine g_iconst C dX4_seldom_36 0 ic_0 37 rfl ?_
      refine g_istore C dX4_seldom_37 [_, _, _, _, _, _] (Nat.le_of_ble_eq_true rfl) rfl rfl 39 rfl ?_
      refine g_lv [some (.ref (b 0)), some (.int p0), some (.int p1), some (.int (f_X4_bound p1 0 100)), some (.int (-9)), some (.int 0)] (lvLe.sm (lvLe.sm (lvLe.sm (lvLe.sm (lvLe.sm (lvLe.sm lvLe.nil)))))) ?_
      obtain ⟨v15, hv15, hR⟩ := opt_b hR
      refine k_X4_seldom_L39 l g C N_ p0 p1 (f_X4_bound p1 0 100) v2 N_ (-9) 0 _ hv15 ?_
      refine g_iload C dX4_seldom_110 rfl 112 rfl ?_
      obtain rfl := Option.some.inj hR
      exact g_iret C hr hlocks hA (by first | (dsimp only; done) | rfl) (by first | (dsimp only; done) | rfl) dX4_seldom_112
    · refine g_aload_n C dX4_seldom_22 rfl 23 rfl ?_
      refine g_iload_n C dX4_seldom_23 rfl 24 rfl ?_
      obtain ⟨v16, hv16, hR⟩ := opt_b hR
      refine g_callI C (rn_V C (k_X4_no l g b S (f_X4_bound p1 0 100) N_ v16 hv16) (cwV 1 C.1.2.2.2.2 (gdV wl_111 wl_108 wl_109 wl_110 wl_5) rfl rfl rfl hd_X4_no ⟨Nat.le_of_ble_eq_true rfl, Nat.le_of_ble_eq_true rfl⟩) 0 rfl rfl _ rg_C rg_n rfl rfl (Nat.le_of_ble_eq_true rfl) ⟨Nat.zero_le _, Nat.zero_le _⟩ dX4_seldom_24) (wM g b v16.2) (rg_put (wM_len.trans wM_len.symm)) (rg_len (wM_len.trans wM_len.symm)) 27 rfl ?_
      obtain rfl := Option.some.inj hR
      exact g_iret C hr hlocks hA (by first | (dsimp only; done) | rfl) (by first | (dsimp only; done) | rfl) dX4_seldom_27
theorem hd_X4_join : yX4_join.cls = RX4 ∧ yX4_join.cls ≠ "java/lang/invoke/MethodHandle" ∧ yX4_join.cls ≠ "java/lang/invoke/VarHandle" ∧ (parseMethodDescriptor yX4_join.desc).map (fun d => d.parameters.length) = some 4 := by decide +kernel
def f_X4_join_L123 (S : (Nat → Nat → Int32) × (Nat → Nat → Int64)) (N_ : Nat) : Nat → Int64 → Int32 → Option (Int64 × Int32)
  | 0, _, _ => none
  | n_ + 1, x10, x12 =>
    if 5 ≤ x12 then
      some (x10, x12)
    else
      if x12 < 0 ∨ 5 ≤ (Int32.toNatClampNeg x12) then none else
      f_X4_join_L123 S N_ n_ (x10 + ((S.2 2) (Int32.toNatClampNeg x12))) (x12 + 1)
set_option maxRecDepth 100000 in
set_option maxHeartbeats 4000000 in
theorem k_X4_join_L123 (l : Launch) (g : gE) {p : Program} {e : Env} {s : State} {m : MethodId} {args : Array Value} {below : List Frame} {meth : Method} {c : Code} {Q : State → Prop} {A : Nat → Prop} {b : Nat → Nat}  (C : Cx p s m args c g A cX4_join 16 wA_X4_join RX4) (N_ : Nat) (x1 : Int32) (x2 : Int32) (x3 : Int32) (x4 : Int32) (x5 : Int32) (x6 : Int64) (x8 : Int64) (S : (Nat → Nat → Int32) × (Nat → Nat → Int64)) : ∀ (n_ : Nat) (x10 : Int64) (x12 : Int32) (rv_ : Int64 × Int32), f_X4_join_L123 S N_ n_ x10 x12 = some rv_ → (Gm p l e (headSpec wA_X4_join ({ frames := 5, cells := 0, slots := 0, locals := 117 } : Room)).room s m args below meth c Q g A 16 0 0 (wM g b S) [some (.ref (b 0)), some (.int x1), some (.int x2), some (.int x3), some (.int x4), some (.int x5), some (.long x6), none, some (.long x8), none, some (.long rv_.1), none, some (.int rv_.2), none, none, none] [] 147) → Gm p l e (headSpec wA_X4_join ({ frames := 5, cells := 0, slots := 0, locals := 117 } : Room)).room s m args below meth c Q g A 16 0 0 (wM g b S) [some (.ref (b 0)), some (.int x1), some (.int x2), some (.int x3), some (.int x4), some (.int x5), some (.long x6), none, some (.long x8), none, some (.long x10), none, some (.int x12), none, none, none] [] 123 := by
  intro n_
  induction n_ with
  | zero =>
    intro x10 x12 rv_ hR
    simp [f_X4_join_L123] at hR
  | succ n_ ih =>
    intro x10 x12 rv_ hR hk
    rw [f_X4_join_L123] at hR
    refine g_iload C dX4_join_123 rfl 125 rfl ?_
    refine g_iconst C dX4_join_125 5 ic_5 126 rfl ?_
    refine g_icmp_ge C dX4_join_126 hR 147 129 (by decide) rfl (fun c_126 hR => ?_) (fun c_126 hR => ?_)
    · obtain rfl := Option.some.inj hR
      refine g_lv [some (.ref (b 0)), some (.int x1), some (.int x2), some (.int x3), some (.int x4), some (.int x5), some (.long x6), none, some (.long x8), none, some (.long x10), none, some (.int x12), none, none, none] (lvLe.sm (lvLe.sm (lvLe.sm (lvLe.sm (lvLe.sm (lvLe.sm (lvLe.sm (lvLe.nn (lvLe.sm (lvLe.nn (lvLe.sm (lvLe.nn (lvLe.sm (lvLe.nn (lvLe.nn (lvLe.nn lvLe.nil)))))))))))))))) ?_
      exact hk
    · refine g_lload C dX4_join_129 rfl 131 rfl ?_
      refine g_aload_n C dX4_join_131 rfl 132 rfl ?_
      refine g_get (v := .ref (b 19)) C (hiC hiA_4) 0 rfl rfl 27 (by decide) (List.mem_cons_of_mem _ wl_82) rfl rfl dX4_join_132 135 rfl ?_
      refine g_iload C dX4_join_135 rfl 137 rfl ?_
      obtain ⟨h_137, hR⟩ := opt_n hR
      refine g_lald (f := (S.2 2)) C 19 rfl h_137 dX4_join_137 138 rfl ?_
      refine g_ladd C dX4_join_138 139 rfl ?_
      refine g_lstore C dX4_join_139 [_, _, _, _, _, _, _, _, _, _, _, _, _, _, _, _] (Nat.le_of_ble_eq_true rfl) rfl rfl 141 rfl ?_
      refine g_iinc C dX4_join_141 rfl 1 ic_1 [_, _, _, _, _, _, _, _, _, _, _, _, _, _, _, _] (Nat.le_of_ble_eq_true rfl) rfl rfl 144 rfl ?_
      refine g_goto C dX4_join_144 123 (by decide) ?_
      refine g_lv [some (.ref (b 0)), some (.int x1), some (.int x2), some (.int x3), some (.int x4), some (.int x5), some (.long x6), none, some (.long x8), none, some (.long (x10 + ((S.2 2) (Int32.toNatClampNeg x12)))), none, some (.int (x12 + 1)), none, none, none] (lvLe.sm (lvLe.sm (lvLe.sm (lvLe.sm (lvLe.sm (lvLe.sm (lvLe.sm (lvLe.nn (lvLe.sm (lvLe.nn (lvLe.sm (lvLe.nn (lvLe.sm (lvLe.nn (lvLe.nn (lvLe.nn lvLe.nil)))))))))))))))) ?_
      exact ih _ _ rv_ hR hk
def f_X4_join_L169  (N_ : Nat) : Nat → Int32 → ((Nat → Nat → Int32) × (Nat → Nat → Int64)) → Option (Int32 × ((Nat → Nat → Int32) × (Nat → Nat → Int64)))
  | 0, _, _ => none
  | n_ + 1, x14, S =>
    if 5 ≤ x14 then
      some (x14, S)
    else
      if x14 < 0 ∨ 5 ≤ (Int32.toNatClampNeg x14) then none else
      f_X4_join_L169 N_ n_ (x14 + 1) (S.1, (kLS S.2 0 (vp_updL (S.2 0) (Int32.toNatClampNeg x14) 0)))
set_option maxRecDepth 100000 in
set_option maxHeartbeats 4000000 in
theorem k_X4_join_L169 (l : Launch) (g : gE) {p : Program} {e : Env} {s : State} {m : MethodId} {args : Array Value} {below : List Frame} {meth : Method} {c : Code} {Q : State → Prop} {A : Nat → Prop} {b : Nat → Nat}  (C : Cx p s m args c g A cX4_join 16 wA_X4_join RX4) (N_ : Nat) (x1 : Int32) (x2 : Int32) (x3 : Int32) (x4 : Int32) (x5 : Int32) (x6 : Int64) (x8 : Int64) (x10 : Int64) (x12 : Int64) : ∀ (n_ : Nat) (x14 : Int32) (S : (Nat → Nat → Int32) × (Nat → Nat → Int64)) (rv_ : Int32 × ((Nat → Nat → Int32) × (Nat → Nat → Int64))), f_X4_join_L169 N_ n_ x14 S = some rv_ → (Gm p l e (headSpec wA_X4_join ({ frames := 5, cells := 0, slots := 0, locals := 117 } : Room)).room s m args below meth c Q g A 16 0 0 (wM g b rv_.2) [some (.ref (b 0)), some (.int x1), some (.int x2), some (.int x3), some (.int x4), some (.int x5), some (.long x6), none, some (.long x8), none, some (.long x10), none, some (.long x12), none, some (.int rv_.1), none] [] 189) → Gm p l e (headSpec wA_X4_join ({ frames := 5, cells := 0, slots := 0, locals := 117 } : Room)).room s m args below meth c Q g A 16 0 0 (wM g b S) [some (.ref (b 0)), some (.int x1), some (.int x2), some (.int x3), some (.int x4), some (.int x5), some (.long x6), none, some (.long x8), none, some (.long x10), none, some (.long x12), none, some (.int x14), none] [] 169 := by
  intro n_
  induction n_ with
  | zero =>
    intro x14 S rv_ hR
    simp [f_X4_join_L169] at hR
  | succ n_ ih =>
    intro x14 S rv_ hR hk
    rw [f_X4_join_L169] at hR
    refine g_iload C dX4_join_169 rfl 171 rfl ?_
    refine g_iconst C dX4_join_171 5 ic_5 172 rfl ?_
    refine g_icmp_ge C dX4_join_172 hR 189 175 (by decide) rfl (fun c_172 hR => ?_) (fun c_172 hR => ?_)
    · obtain rfl := Option.some.inj hR
      refine g_lv [some (.ref (b 0)), some (.int x1), some (.int x2), some (.int x3), some (.int x4), some (.int x5), some (.long x6), none, some (.long x8), none, some (.long x10), none, some (.long x12), none, some (.int x14), none] (lvLe.sm (lvLe.sm (lvLe.sm (lvLe.sm (lvLe.sm (lvLe.sm (lvLe.sm (lvLe.nn (lvLe.sm (lvLe.nn (lvLe.sm (lvLe.nn (lvLe.sm (lvLe.nn (lvLe.sm (lvLe.nn lvLe.nil)))))))))))))))) ?_
      exact hk
    · refine g_aload_n C dX4_join_175 rfl 176 rfl ?_
      refine g_get (v := .ref (b 17)) C (hiC hiA_4) 0 rfl rfl 25 (by decide) (List.mem_cons_of_mem _ wl_80) rfl rfl dX4_join_176 179 rfl ?_
      refine g_iload C dX4_join_179 rfl 181 rfl ?_
      refine g_lconst C dX4_join_181 0 (by decide) 182 rfl ?_
      obtain ⟨h_182, hR⟩ := opt_n hR
      refine g_last (f := (S.2 0)) C 17 rfl h_182 dX4_join_182 (wMr g b (S.1 0 0) (S.1 0 1) (S.1 0 2) (S.1 0 3) (S.1 0 4) (S.1 0 5) (S.1 0 6) (S.1 0 7) (S.1 0 8) (S.1 0 9) (S.1 0 10) (S.1 0 11) (S.1 0 12) (S.1 0 13) (S.1 0 14) (S.1 1) (S.1 2) (S.1 3) (S.1 4) (S.1 5) (S.1 6) (S.1 7) (S.1 8) (S.1 9) (S.1 10) (S.1 11) (S.1 12) (S.1 13) (S.1 14) (S.1 15) (S.1 16) (vp_updL (S.2 0) (Int32.toNatClampNeg x14) 0) (S.2 1) (S.2 2)) rfl 183 rfl ?_
      refine g_iinc C dX4_join_183 rfl 1 ic_1 [_, _, _, _, _, _, _, _, _, _, _, _, _, _, _, _] (Nat.le_of_ble_eq_true rfl) rfl rfl 186 rfl ?_
      refine g_goto C dX4_join_186 169 (by decide) ?_
      refine g_lv [some (.ref (b 0)), some (.int x1), some (.int x2), some (.int x3), some (.int x4), some (.int x5), some (.long x6), none, some (.long x8), none, some (.long x10), none, some (.long x12), none, some (.int (x14 + 1)), none] (lvLe.sm (lvLe.sm (lvLe.sm (lvLe.sm (lvLe.sm (lvLe.sm (lvLe.sm (lvLe.nn (lvLe.sm (lvLe.nn (lvLe.sm (lvLe.nn (lvLe.sm (lvLe.nn (lvLe.sm (lvLe.nn lvLe.nil)))))))))))))))) ?_
      exact ih _ _ rv_ hR hk
def f_X4_join_L192  (N_ : Nat) : Nat → Int32 → ((Nat → Nat → Int32) × (Nat → Nat → Int64)) → Option (Int32 × ((Nat → Nat → Int32) × (Nat → Nat → Int64)))
  | 0, _, _ => none
  | n_ + 1, x14, S =>
    if 25 ≤ x14 then
      some (x14, S)
    else
      if (x14 / 5) ≤ (x14 - x14 / 5 * 5) then
        if (x14 - x14 / 5 * 5) < 0 ∨ 5 ≤ (Int32.toNatClampNeg (x14 - x14 / 5 * 5)) then none else
        if (x14 / 5) < 0 ∨ 5 ≤ (Int32.toNatClampNeg (x14 / 5)) then none else
        if (x14 - x14 / 5 * 5) < 0 ∨ 5 ≤ (Int32.toNatClampNeg (x14 - x14 / 5 * 5)) then none else
        if (x14 - x14 / 5 * 5) < 0 ∨ 5 ≤ (Int32.toNatClampNeg (x14 - x14 / 5 * 5)) then none else
        f_X4_join_L192 N_ n_ (x14 + 1) (S.1, (kLS S.2 0 (vp_updL (S.2 0) (Int32.toNatClampNeg (x14 - x14 / 5 * 5)) (((S.2 0) (Int32.toNatClampNeg (x14 - x14 / 5 * 5))) + (((S.2 1) (Int32.toNatClampNeg (x14 / 5))) * ((S.2 2) (Int32.toNatClampNeg (x14 - x14 / 5 * 5))))))))
      else
        if (x14 / 5) < 0 ∨ 5 ≤ (Int32.toNatClampNeg (x14 / 5)) then none else
        if (x14 / 5) < 0 ∨ 5 ≤ (Int32.toNatClampNeg (x14 / 5)) then none else
        if (x14 - x14 / 5 * 5) < 0 ∨ 5 ≤ (Int32.toNatClampNeg (x14 - x14 / 5 * 5)) then none else
        if (x14 / 5) < 0 ∨ 5 ≤ (Int32.toNatClampNeg (x14 / 5)) then none else
        f_X4_join_L192 N_ n_ (x14 + 1) (S.1, (kLS S.2 0 (vp_updL (S.2 0) (Int32.toNatClampNeg (x14 / 5)) (((S.2 0) (Int32.toNatClampNeg (x14 / 5))) + (((S.2 1) (Int32.toNatClampNeg (x14 / 5))) * ((S.2 2) (Int32.toNatClampNeg (x14 - x14 / 5 * 5))))))))
set_option maxRecDepth 100000 in
set_option maxHeartbeats 4000000 in
theorem k_X4_join_L192 (l : Launch) (g : gE) {p : Program} {e : Env} {s : State} {m : MethodId} {args : Array Value} {below : List Frame} {meth : Method} {c : Code} {Q : State → Prop} {A : Nat → Prop} {b : Nat → Nat}  (C : Cx p s m args c g A cX4_join 16 wA_X4_join RX4) (N_ : Nat) (x1 : Int32) (x2 : Int32) (x3 : Int32) (x4 : Int32) (x5 : Int32) (x6 : Int64) (x8 : Int64) (x10 : Int64) (x12 : Int64) : ∀ (n_ : Nat) (x14 : Int32) (S : (Nat → Nat → Int32) × (Nat → Nat → Int64)) (rv_ : Int32 × ((Nat → Nat → Int32) × (Nat → Nat → Int64))), f_X4_join_L192 N_ n_ x14 S = some rv_ → (Gm p l e (headSpec wA_X4_join ({ frames := 5, cells := 0, slots := 0, locals := 117 } : Room)).room s m args below meth c Q g A 16 0 0 (wM g b rv_.2) [some (.ref (b 0)), some (.int x1), some (.int x2), some (.int x3), some (.int x4), some (.int x5), some (.long x6), none, some (.long x8), none, some (.long x10), none, some (.long x12), none, some (.int rv_.1), none] [] 254) → Gm p l e (headSpec wA_X4_join ({ frames := 5, cells := 0, slots := 0, locals := 117 } : Room)).room s m args below meth c Q g A 16 0 0 (wM g b S) [some (.ref (b 0)), some (.int x1), some (.int x2), some (.int x3), some (.int x4), some (.int x5), some (.long x6), none, some (.long x8), none, some (.long x10), none, some (.long x12), none, some (.int x14), none] [] 192 := by
  intro n_
  induction n_ with
  | zero =>
    intro x14 S rv_ hR
    simp [f_X4_join_L192] at hR
  | succ n_ ih =>
    intro x14 S rv_ hR hk
    rw [f_X4_join_L192] at hR
    refine g_iload C dX4_join_192 rfl 194 rfl ?_
    refine g_bipush C dX4_join_194 25 bp_25 196 rfl ?_
    refine g_icmp_ge C dX4_join_196 hR 254 199 (by decide) rfl (fun c_196 hR => ?_) (fun c_196 hR => ?_)
    · obtain rfl := Option.some.inj hR
      refine g_lv [some (.ref (b 0)), some (.int x1), some (.int x2), some (.int x3), some (.int x4), some (.int x5), some (.long x6), none, some (.long x8), none, some (.long x10), none, some (.long x12), none, some (.int x14), none] (lvLe.sm (lvLe.sm (lvLe.sm (lvLe.sm (lvLe.sm (lvLe.sm (lvLe.sm (lvLe.nn (lvLe.sm (lvLe.nn (lvLe.sm (lvLe.nn (lvLe.sm (lvLe.nn (lvLe.sm (lvLe.nn lvLe.nil)))))))))))))))) ?_
      exact hk
    · refine g_aload_n C dX4_join_199 rfl 200 rfl ?_
      refine g_get (v := .ref (b 17)) C (hiC hiA_4) 0 rfl rfl 25 (by decide) (List.mem_cons_of_mem _ wl_80) rfl rfl dX4_join_200 203 rfl ?_
      refine g_iload C dX4_join_203 rfl 205 rfl ?_
      refine g_iconst C dX4_join_205 5 ic_5 206 rfl ?_
      refine g_idiv C dX4_join_206 (by decide) 207 rfl ?_
      refine g_iload C dX4_join_207 rfl 209 rfl ?_
      refine g_iconst C dX4_join_209 5 ic_5 210 rfl ?_
      refine g_irem C dX4_join_210 (by decide) 211 rfl ?_
      refine g_icmp_le C dX4_join_211 hR 221 214 (by decide) rfl (fun c_211 hR => ?_) (fun c_211 hR => ?_)
      · refine g_iload C dX4_join_221 rfl 223 rfl ?_
        refine g_iconst C dX4_join_223 5 ic_5 224 rfl ?_
        refine g_irem C dX4_join_224 (by decide) 225 rfl ?_
        refine g_dup2 C dX4_join_225 rfl rfl 226 rfl ?_
        obtain ⟨h_226, hR⟩ := opt_n hR
        refine g_lald (f := (S.2 0)) C 17 rfl h_226 dX4_join_226 227 rfl ?_
        refine g_aload_n C dX4_join_227 rfl 228 rfl ?_
        refine g_get (v := .ref (b 18)) C (hiC hiA_4) 0 rfl rfl 26 (by decide) (List.mem_cons_of_mem _ wl_81) rfl rfl dX4_join_228 231 rfl ?_
        refine g_iload C dX4_join_231 rfl 233 rfl ?_
        refine g_iconst C dX4_join_233 5 ic_5 234 rfl ?_
        refine g_idiv C dX4_join_234 (by decide) 235 rfl ?_
        obtain ⟨h_235, hR⟩ := opt_n hR
        refine g_lald (f := (S.2 1)) C 18 rfl h_235 dX4_join_235 236 rfl ?_
        refine g_aload_n C dX4_join_236 rfl 237 rfl ?_
        refine g_get (v := .ref (b 19)) C (hiC hiA_4) 0 rfl rfl 27 (by decide) (List.mem_cons_of_mem _ wl_82) rfl rfl dX4_join_237 240 rfl ?_
        refine g_iload C dX4_join_240 rfl 242 rfl ?_
        refine g_iconst C dX4_join_242 5 ic_5 243 rfl ?_
        refine g_irem C dX4_join_243 (by decide) 244 rfl ?_
        obtain ⟨h_244, hR⟩ := opt_n hR
        refine g_lald (f := (S.2 2)) C 19 rfl h_244 dX4_join_244 245 rfl ?_
        refine g_lmul C dX4_join_245 246 rfl ?_
        refine g_ladd C dX4_join_246 247 rfl ?_
        obtain ⟨h_247, hR⟩ := opt_n hR
        refine g_last (f := (S.2 0)) C 17 rfl h_247 dX4_join_247 (wMr g b (S.1 0 0) (S.1 0 1) (S.1 0 2) (S.1 0 3) (S.1 0 4) (S.1 0 5) (S.1 0 6) (S.1 0 7) (S.1 0 8) (S.1 0 9) (S.1 0 10) (S.1 0 11) (S.1 0 12) (S.1 0 13) (S.1 0 14) (S.1 1) (S.1 2) (S.1 3) (S.1 4) (S.1 5) (S.1 6) (S.1 7) (S.1 8) (S.1 9) (S.1 10) (S.1 11) (S.1 12) (S.1 13) (S.1 14) (S.1 15) (S.1 16) (vp_updL (S.2 0) (Int32.toNatClampNeg (x14 - x14 / 5 * 5)) (((S.2 0) (Int32.toNatClampNeg (x14 - x14 / 5 * 5))) + (((S.2 1) (Int32.toNatClampNeg (x14 / 5))) * ((S.2 2) (Int32.toNatClampNeg (x14 - x14 / 5 * 5)))))) (S.2 1) (S.2 2)) rfl 248 rfl ?_
        refine g_iinc C dX4_join_248 rfl 1 ic_1 [_, _, _, _, _, _, _, _, _, _, _, _, _, _, _, _] (Nat.le_of_ble_eq_true rfl) rfl rfl 251 rfl ?_
        refine g_goto C dX4_join_251 192 (by decide) ?_
        refine g_lv [some (.ref (b 0)), some (.int x1), some (.int x2), some (.int x3), some (.int x4), some (.int x5), some (.long x6), none, some (.long x8), none, some (.long x10), none, some (.long x12), none, some (.int (x14 + 1)), none] (lvLe.sm (lvLe.sm (lvLe.sm (lvLe.sm (lvLe.sm (lvLe.sm (lvLe.sm (lvLe.nn (lvLe.sm (lvLe.nn (lvLe.sm (lvLe.nn (lvLe.sm (lvLe.nn (lvLe.sm (lvLe.nn lvLe.nil)))))))))))))))) ?_
        exact ih _ _ rv_ hR hk
      · refine g_iload C dX4_join_214 rfl 216 rfl ?_
        refine g_iconst C dX4_join_216 5 ic_5 217 rfl ?_
        refine g_idiv C dX4_join_217 (by decide) 218 rfl ?_
        refine g_goto C dX4_join_218 225 (by decide) ?_
        refine g_dup2 C dX4_join_225 rfl rfl 226 rfl ?_
        obtain ⟨h_226, hR⟩ := opt_n hR
        refine g_lald (f := (S.2 0)) C 17 rfl h_226 dX4_join_226 227 rfl ?_
        refine g_aload_n C dX4_join_227 rfl 228 rfl ?_
        refine g_get (v := .ref (b 18)) C (hiC hiA_4) 0 rfl rfl 26 (by decide) (List.mem_cons_of_mem _ wl_81) rfl rfl dX4_join_228 231 rfl ?_
        refine g_iload C dX4_join_231 rfl 233 rfl ?_
        refine g_iconst C dX4_join_233 5 ic_5 234 rfl ?_
        refine g_idiv C dX4_join_234 (by decide) 235 rfl ?_
        obtain ⟨h_235, hR⟩ := opt_n hR
        refine g_lald (f := (S.2 1)) C 18 rfl h_235 dX4_join_235 236 rfl ?_
        refine g_aload_n C dX4_join_236 rfl 237 rfl ?_
        refine g_get (v := .ref (b 19)) C (hiC hiA_4) 0 rfl rfl 27 (by decide) (List.mem_cons_of_mem _ wl_82) rfl rfl dX4_join_237 240 rfl ?_
        refine g_iload C dX4_join_240 rfl 242 rfl ?_
        refine g_iconst C dX4_join_242 5 ic_5 243 rfl ?_
        refine g_irem C dX4_join_243 (by decide) 244 rfl ?_
        obtain ⟨h_244, hR⟩ := opt_n hR
        refine g_lald (f := (S.2 2)) C 19 rfl h_244 dX4_join_244 245 rfl ?_
        refine g_lmul C dX4_join_245 246 rfl ?_
        refine g_ladd C dX4_join_246 247 rfl ?_
        obtain ⟨h_247, hR⟩ := opt_n hR
        refine g_last (f := (S.2 0)) C 17 rfl h_247 dX4_join_247 (wMr g b (S.1 0 0) (S.1 0 1) (S.1 0 2) (S.1 0 3) (S.1 0 4) (S.1 0 5) (S.1 0 6) (S.1 0 7) (S.1 0 8) (S.1 0 9) (S.1 0 10) (S.1 0 11) (S.1 0 12) (S.1 0 13) (S.1 0 14) (S.1 1) (S.1 2) (S.1 3) (S.1 4) (S.1 5) (S.1 6) (S.1 7) (S.1 8) (S.1 9) (S.1 10) (S.1 11) (S.1 12) (S.1 13) (S.1 14) (S.1 15) (S.1 16) (vp_updL (S.2 0) (Int32.toNatClampNeg (x14 / 5)) (((S.2 0) (Int32.toNatClampNeg (x14 / 5))) + (((S.2 1) (Int32.toNatClampNeg (x14 / 5))) * ((S.2 2) (Int32.toNatClampNeg (x14 - x14 / 5 * 5)))))) (S.2 1) (S.2 2)) rfl 248 rfl ?_
        refine g_iinc C dX4_join_248 rfl 1 ic_1 [_, _, _, _, _, _, _, _, _, _, _, _, _, _, _, _] (Nat.le_of_ble_eq_true rfl) rfl rfl 251 rfl ?_
        refine g_goto C dX4_join_251 192 (by decide) ?_
        refine g_lv [some (.ref (b 0)), some (.int x1), some (.int x2), some (.int x3), some (.int x4), some (.int x5), some (.long x6), none, some (.long x8), none, some (.long x10), none, some (.long x12), none, some (.int (x14 + 1)), none] (lvLe.sm (lvLe.sm (lvLe.sm (lvLe.sm (lvLe.sm (lvLe.sm (lvLe.sm (lvLe.nn (lvLe.sm (lvLe.nn (lvLe.sm (lvLe.nn (lvLe.sm (lvLe.nn (lvLe.sm (lvLe.nn lvLe.nil)))))))))))))))) ?_
        exact ih _ _ rv_ hR hk
def f_X4_join (S : (Nat → Nat → Int32) × (Nat → Nat → Int64)) (p0 : Int32) (p1 : Int32) (p2 : Int32) (p3 : Int32) (N_ : Nat) : Option (Int64 × ((Nat → Nat → Int32) × (Nat → Nat → Int64))) :=
  if (b2i (f_X4_isJug S p0)) = 0 then
    (f_X4_lowest S (-1) N_).bind fun v1 =>
    some (v1.1, v1.2)
  else
    if (b2i (f_X4_isJug S p1)) = 0 then
      (f_X4_lowest S (-1) N_).bind fun v2 =>
      some (v2.1, v2.2)
    else
      if p0 = p1 then
        (f_X4_lowest S (-1) N_).bind fun v3 =>
        some (v3.1, v3.2)
      else
        if (b2i (f_X4_isWhom p2)) = 0 then
          (f_X4_lowest S (-1) N_).bind fun v15 =>
          some (v15.1, v15.2)
        else
          if (b2i (f_X4_isIn p3 0 1)) = 0 then
            (f_X4_lowest S (-2) N_).bind fun v14 =>
            some (v14.1, v14.2)
          else
            if p0 < 0 ∨ 5 ≤ (Int32.toNatClampNeg p0) then none else
            (f_X4_laysWeights_1 S p0 ((S.1 5) (Int32.toNatClampNeg p0)) N_).bind fun v4 =>
            (f_X4_allParts v4 N_).bind fun v5 =>
            (f_X4_bestNet_1 v4 p2 N_).bind fun v6 =>
            if p0 < 0 ∨ 5 ≤ (Int32.toNatClampNeg p0) then none else
            if p1 < 0 ∨ 5 ≤ (Int32.toNatClampNeg p1) then none else
            (f_X4_laysWeights_2 v4 p1 ((v4.1 5) (Int32.toNatClampNeg p1)) N_).bind fun v7 =>
            (f_X4_join_L123 v7 N_ N_ 0 0).bind fun v8 =>
            (f_X4_bestNet_2 v7 p2 N_).bind fun v9 =>
            if p1 < 0 ∨ 5 ≤ (Int32.toNatClampNeg p1) then none else
            (f_X4_join_L169 N_ N_ 0 v7).bind fun v10 =>
            (f_X4_join_L192 N_ N_ 0 v10.2).bind fun v11 =>
            (f_X4_bestNet_0 v11.2 p2 N_).bind fun v12 =>
            if p0 < 0 ∨ 5 ≤ (Int32.toNatClampNeg p0) then none else
            if p1 < 0 ∨ 5 ≤ (Int32.toNatClampNeg p1) then none else
            (f_X4_partOf (((v12 * (Int32.toInt64 (((v11.2.1 4) (Int32.toNatClampNeg p0)) + ((v11.2.1 4) (Int32.toNatClampNeg p1))))) - ((v6 * (Int32.toInt64 ((v4.1 4) (Int32.toNatClampNeg p0)))) * v8.1)) - ((v9 * (Int32.toInt64 ((v7.1 4) (Int32.toNatClampNeg p1)))) * v5)) (v5 * v8.1) p3 N_).bind fun v13 =>
            some (v13, v11.2)
set_option maxRecDepth 100000 in
set_option maxHeartbeats 4000000 in
theorem k_X4_join (l : Launch) (g : gE) (b : Nat → Nat) (S : (Nat → Nat → Int32) × (Nat → Nat → Int64)) (p0 : Int32) (p1 : Int32) (p2 : Int32) (p3 : Int32) (N_ : Nat) (R_ : Int64 × ((Nat → Nat → Int32) × (Nat → Nat → Int64))) (hR : f_X4_join S p0 p1 p2 p3 N_ = some R_) : FnL l g yX4_join wA_X4_join { frames := 5, cells := 0, slots := 0, locals := 117 } [.ref (b 0), .int p0, .int p1, .int p2, .int p3] (wM g b S) R_.1 (wM g b R_.2) := by
  refine fEntry (As := [.ref (b 0), .int p0, .int p1, .int p2, .int p3]) (maxL := 16) (ret := (some .long)) (by decide) rfl [some (.ref (b 0)), some (.int p0), some (.int p1), some (.int p2), some (.int p3), none, none, none, none, none, none, none, none, none, none, none] (Nat.le_of_ble_eq_true rfl) (lvInB.to (lvInB.sm (lvInB.sm (lvInB.sm (lvInB.sm (lvInB.sm (lvInB.nn (lvInB.nn (lvInB.nn (lvInB.nn (lvInB.nn (lvInB.nn (lvInB.nn (lvInB.nn (lvInB.nn (lvInB.nn (lvInB.nn lvInB.nil))))))))))))))))) ?_
  intro p e s m below meth c A C hr hlocks hname hA
  have C : Cx p s m _ c g A cX4_join 16 wA_X4_join RX4 := C
  rw [f_X4_join] at hR
  refine g_aload_n C dX4_join_0 rfl 1 rfl ?_
  refine g_iload_n C dX4_join_1 rfl 2 rfl ?_
  refine g_callIR C (rn_V C (k_X4_isJug l g b S p0) (cwV 1 C.1.2.2.2.2 (gdV wl_276 wl_273 wl_274 wl_275 wl_5) rfl rfl rfl hd_X4_isJug ⟨Nat.le_of_ble_eq_true rfl, Nat.le_of_ble_eq_true rfl⟩) 0 rfl rfl _ rg_C rg_n rfl rfl (Nat.le_of_ble_eq_true rfl) ⟨Nat.zero_le _, Nat.zero_le _⟩ dX4_join_2) 5 rfl ?_
  refine g_if_eq C dX4_join_5 hR 28 8 (by decide) rfl (fun c_5 hR => ?_) (fun c_5 hR => ?_)
  · refine g_iconst C dX4_join_28 (-1) ic_m1 29 rfl ?_
    refine g_goto C dX4_join_29 48 (by decide) ?_
    refine g_istore C dX4_join_48 [_, _, _, _, _, _, _, _, _, _, _, _, _, _, _, _] (Nat.le_of_ble_eq_true rfl) rfl rfl 50 rfl ?_
    refine g_iload C dX4_join_50 rfl 52 rfl ?_
    refine g_if_eqF C dX4_join_52 (by decide) 62 55 (by decide) rfl ?_
    refine g_aload_n C dX4_join_55 rfl 56 rfl ?_
    refine g_iload C dX4_join_56 rfl 58 rfl ?_
    obtain ⟨v1, hv1, hR⟩ := opt_b hR
    refine g_callL C (rn_V C (k_X4_lowest l g b S (-1) N_ v1 hv1) (cwV 1 C.1.2.2.2.2 (gdV wl_462 wl_459 wl_460 wl_461 wl_5) rfl rfl rfl hd_X4_lowest ⟨Nat.le_of_ble_eq_true rfl, Nat.le_of_ble_eq_true rfl⟩) 0 rfl rfl _ rg_C rg_n rfl rfl (Nat.le_of_ble_eq_true rfl) ⟨Nat.zero_le _, Nat.zero_le _⟩ dX4_join_58) (wM g b v1.2) (rg_put (wM_len.trans wM_len.symm)) (rg_len (wM_len.trans wM_len.symm)) 61 rfl ?_
    obtain rfl := Option.some.inj hR
    exact g_lret C hr hlocks hA (by first | (dsimp only; done) | rfl) (by first | (dsimp only; done) | rfl) dX4_join_61
  · refine g_aload_n C dX4_join_8 rfl 9 rfl ?_
    refine g_iload_n C dX4_join_9 rfl 10 rfl ?_
    refine g_callIR C (rn_V C (k_X4_isJug l g b S p1) (cwV 1 C.1.2.2.2.2 (gdV wl_276 wl_273 wl_274 wl_275 wl_5) rfl rfl rfl hd_X4_isJug ⟨Nat.le_of_ble_eq_true rfl, Nat.le_of_ble_eq_true rfl⟩) 0 rfl rfl _ rg_C rg_n rfl rfl (Nat.le_of_ble_eq_true rfl) ⟨Nat.zero_le _, Nat.zero_le _⟩ dX4_join_10) 13 rfl ?_
    refine g_if_eq C dX4_join_13 hR 28 16 (by decide) rfl (fun c_13 hR => ?_) (fun c_13 hR => ?_)
    · refine g_iconst C dX4_join_28 (-1) ic_m1 29 rfl ?_
      refine g_goto C dX4_join_29 48 (by decide) ?_
      refine g_istore C dX4_join_48 [_, _, _, _, _, _, _, _, _, _, _, _, _, _, _, _] (Nat.le_of_ble_eq_true rfl) rfl rfl 50 rfl ?_
      refine g_iload C dX4_join_50 rfl 52 rfl ?_
      refine g_if_eqF C dX4_join_52 (by decide) 62 55 (by decide) rfl ?_
      refine g_aload_n C dX4_join_55 rfl 56 rfl ?_
      refine g_iload C dX4_join_56 rfl 58 rfl ?_
      obtain ⟨v2, hv2, hR⟩ := opt_b hR
      refine g_callL C (rn_V C (k_X4_lowest l g b S (-1) N_ v2 hv2) (cwV 1 C.1.2.2.2.2 (gdV wl_462 wl_459 wl_460 wl_461 wl_5) rfl rfl rfl hd_X4_lowest ⟨Nat.le_of_ble_eq_true rfl, Nat.le_of_ble_eq_true rfl⟩) 0 rfl rfl _ rg_C rg_n rfl rfl (Nat.le_of_ble_eq_true rfl) ⟨Nat.zero_le _, Nat.zero_le _⟩ dX4_join_58) (wM g b v2.2) (rg_put (wM_len.trans wM_len.symm)) (rg_len (wM_len.trans wM_len.symm)) 61 rfl ?_
      obtain rfl := Option.some.inj hR
      exact g_lret C hr hlocks hA (by first | (dsimp only; done) | rfl) (by first | (dsimp only; done) | rfl) dX4_join_61
    · refine g_iload_n C dX4_join_16 rfl 17 rfl ?_
      refine g_iload_n C dX4_join_17 rfl 18 rfl ?_
      refine g_icmp_eq C dX4_join_18 hR 28 21 (by decide) rfl (fun c_18 hR => ?_) (fun c_18 hR => ?_)
      · refine g_iconst C dX4_join_28 (-1) ic_m1 29 rfl ?_
        refine g_goto C dX4_join_29 48 (by decide) ?_
        refine g_istore C dX4_join_48 [_, _, _, _, _, _, _, _, _, _, _, _, _, _, _, _] (Nat.le_of_ble_eq_true rfl) rfl rfl 50 rfl ?_
        refine g_iload C dX4_join_50 rfl 52 rfl ?_
        refine g_if_eqF C dX4_join_52 (by decide) 62 55 (by decide) rfl ?_
        refine g_aload_n C dX4_join_55 rfl 56 rfl ?_
        refine g_iload C dX4_join_56 rfl 58 rfl ?_
        obtain ⟨v3, hv3, hR⟩ := opt_b hR
        refine g_callL C (rn_V C (k_X4_lowest l g b S (-1) N_ v3 hv3) (cwV 1 C.1.2.2.2.2 (gdV wl_462 wl_459 wl_460 wl_461 wl_5) rfl rfl rfl hd_X4_lowest ⟨Nat.le_of_ble_eq_true rfl, Nat.le_of_ble_eq_true rfl⟩) 0 rfl rfl _ rg_C rg_n rfl rfl (Nat.le_of_ble_eq_true rfl) ⟨Nat.zero_le _, Nat.zero_le _⟩ dX4_join_58) (wM g b v3.2) (rg_put (wM_len.trans wM_len.symm)) (rg_len (wM_len.trans wM_len.symm)) 61 rfl ?_
        obtain rfl := Option.some.inj hR
        exact g_lret C hr hlocks hA (by first | (dsimp only; done) | rfl) (by first | (dsimp only; done) | rfl) dX4_join_61
      · refine g_iload_n C dX4_join_21 rfl 22 rfl ?_
        refine g_callIR C (rn_S C (k_X4_isWhom l g p2) (va_cwS 1 C.1.2.2.2.2 (gdS wl_524 wl_522 wl_523 wl_5) rfl rfl rfl hd_X4_isWhom.2 ⟨Nat.le_of_ble_eq_true rfl, Nat.le_of_ble_eq_true rfl⟩) [] rfl rfl rfl rfl (Nat.le_of_ble_eq_true rfl) ⟨Nat.zero_le _, Nat.zero_le _⟩ dX4_join_22) 25 rfl ?_
        refine g_if_ne C dX4_join_25 hR 32 28 (by decide) rfl (fun c_25 hR => ?_) (fun c_25 hR => ?_)
        · refine g_iload C dX4_join_32 rfl 34 rfl ?_
          refine g_iconst C dX4_join_34 0 ic_0 35 rfl ?_
          refine g_iconst C dX4_join_35 1 ic_1 36 rfl ?_
          refine g_callIR C (rn_S C (k_X4_isIn l g p3 0 1) (va_cwS 3 C.1.2.2.2.2 (gdS wl_232 wl_230 wl_231 wl_5) rfl rfl rfl hd_X4_isIn.2 ⟨Nat.le_of_ble_eq_true rfl, Nat.le_of_ble_eq_true rfl⟩) [] rfl rfl rfl rfl (Nat.le_of_ble_eq_true rfl) ⟨Nat.zero_le _, Nat.zero_le _⟩ dX4_join_36) 39 rfl ?_
          refine g_if_ne C dX4_join_39 hR 47 42 (by decide) rfl (fun c_39 hR => ?_) (fun c_39 hR => ?_)
          · refine g_iconst C dX4_join_47 0 ic_0 48 rfl ?_
            refine g_istore C dX4_join_48 [_, _, _, _, _, _, _, _, _, _, _, _, _, _, _, _] (Nat.le_of_ble_eq_true rfl) rfl rfl 50 rfl ?_
            refine g_iload C dX4_join_50 rfl 52 rfl ?_
            refine g_if_eqT C dX4_join_52 (by decide) 62 (by decide) ?_
            refine g_aload_n C dX4_join_62 rfl 63 rfl ?_
            refine g_aload_n C dX4_join_63 rfl 64 rfl ?_
            refine g_get (v := .ref (b 18)) C (hiC hiA_4) 0 rfl rfl 26 (by decide) (List.mem_cons_of_mem _ wl_81) rfl rfl dX4_join_64 67 rfl ?_
            refine g_iload_n C dX4_join_67 rfl 68 rfl ?_
            refine g_aload_n C dX4_join_68 rfl 69 rfl ?_
            refine g_get (v := .ref (b 5)) C (hiC hiA_4) 0 rfl rfl 4 (by decide) (List.mem_cons_of_mem _ wl_70) rfl rfl dX4_join_69 72 rfl ?_
            refine g_iload_n C dX4_join_72 rfl 73 rfl ?_
            obtain ⟨h_73, hR⟩ := opt_n hR
            refine g_iald (f := (S.1 5)) C 5 rfl h_73 dX4_join_73 74 rfl ?_
            obtain ⟨v4, hv4, hR⟩ := opt_b hR
            refine g_callV C (rn_V C (k_X4_laysWeights_1 l g b S p0 ((S.1 5) (Int32.toNatClampNeg p0)) N_ v4 hv4) (cwV 3 C.1.2.2.2.2 (gdV wl_780 wl_777 wl_778 wl_779 wl_5) rfl rfl rfl hd_X4_laysWeights ⟨Nat.le_of_ble_eq_true rfl, Nat.le_of_ble_eq_true rfl⟩) 0 rfl rfl _ rg_C rg_n rfl rfl (Nat.le_of_ble_eq_true rfl) ⟨Nat.zero_le _, Nat.zero_le _⟩ dX4_join_74) (wM g b v4) (rg_put (wM_len.trans wM_len.symm)) (rg_len (wM_len.trans wM_len.symm)) 77 rfl ?_
            refine g_aload_n C dX4_join_77 rfl 78 rfl ?_
            obtain ⟨v5, hv5, hR⟩ := opt_b hR
            refine g_callLR C (rn_V C (k_X4_allParts l g b v4 N_ v5 hv5) (cwV 0 C.1.2.2.2.2 (gdV wl_688 wl_685 wl_686 wl_687 wl_5) rfl rfl rfl hd_X4_allParts ⟨Nat.le_of_ble_eq_true rfl, Nat.le_of_ble_eq_true rfl⟩) 0 rfl rfl _ rg_C rg_n rfl rfl (Nat.le_of_ble_eq_true rfl) ⟨Nat.zero_le _, Nat.zero_le _⟩ dX4_join_78) 81 rfl ?_
            refine g_lstore C dX4_join_81 [_, _, _, _, _, _, _, _, _, _, _, _, _, _, _, _] (Nat.le_of_ble_eq_true rfl) rfl rfl 83 rfl ?_
            refine g_aload_n C dX4_join_83 rfl 84 rfl ?_
            refine g_aload_n C dX4_join_84 rfl 85 rfl ?_
            refine g_get (v := .ref (b 18)) C (hiC hiA_4) 0 rfl rfl 26 (by decide) (List.mem_cons_of_mem _ wl_81) rfl rfl dX4_join_85 88 rfl ?_
            refine g_iload_n C dX4_join_88 rfl 89 rfl ?_
            obtain ⟨v6, hv6, hR⟩ := opt_b hR
            refine g_callLR C (rn_V C (k_X4_bestNet_1 l g b v4 p2 N_ v6 hv6) (cwV 2 C.1.2.2.2.2 (gdV wl_609 wl_606 wl_607 wl_608 wl_5) rfl rfl rfl hd_X4_bestNet ⟨Nat.le_of_ble_eq_true rfl, Nat.le_of_ble_eq_true rfl⟩) 0 rfl rfl _ rg_C rg_n rfl rfl (Nat.le_of_ble_eq_true rfl) ⟨Nat.zero_le _, Nat.zero_le _⟩ dX4_join_89) 92 rfl ?_
            refine g_aload_n C dX4_join_92 rfl 93 rfl ?_
            refine g_get (v := .ref (b 4)) C (hiC hiA_4) 0 rfl rfl 3 (by decide) (List.mem_cons_of_mem _ wl_69) rfl rfl dX4_join_93 96 rfl ?_
            refine g_iload_n C dX4_join_96 rfl 97 rfl ?_
            obtain ⟨h_97, hR⟩ := opt_n hR
            refine g_iald (f := (v4.1 4)) C 4 rfl h_97 dX4_join_97 98 rfl ?_
            refine g_i2l C dX4_join_98 99 rfl ?_
            refine g_lmul C dX4_join_99 100 rfl ?_
            refine g_lstore C dX4_join_100 [_, _, _, _, _, _, _, _, _, _, _, _, _, _, _, _] (Nat.le_of_ble_eq_true rfl) rfl rfl 102 rfl ?_
            refine g_aload_n C dX4_join_102 rfl 103 rfl ?_
            refine g_aload_n C dX4_join_103 rfl 104 rfl ?_
            refine g_get (v := .ref (b 19)) C (hiC hiA_4) 0 rfl rfl 27 (by decide) (List.mem_cons_of_mem _ wl_82) rfl rfl dX4_join_104 107 rfl ?_
            refine g_iload_n C dX4_join_107 rfl 108 rfl ?_
            refine g_aload_n C dX4_join_108 rfl 109 rfl ?_
            refine g_get (v := .ref (b 5)) C (hiC hiA_4) 0 rfl rfl 4 (by decide) (List.mem_cons_of_mem _ wl_70) rfl rfl dX4_join_109 112 rfl ?_
            refine g_iload_n C dX4_join_112 rfl 113 rfl ?_
            obtain ⟨h_113, hR⟩ := opt_n hR
            refine g_iald (f := (v4.1 5)) C 5 rfl h_113 dX4_join_113 114 rfl ?_
            obtain ⟨v7, hv7, hR⟩ := opt_b hR
            refine g_callV C (rn_V C (k_X4_laysWeights_2 l g b v4 p1 ((v4.1 5) (Int32.toNatClampNeg p1)) N_ v7 hv7) (cwV 3 C.1.2.2.2.2 (gdV wl_780 wl_777 wl_778 wl_779 wl_5) rfl rfl rfl hd_X4_laysWeights ⟨Nat.le_of_ble_eq_true rfl, Nat.le_of_ble_eq_true rfl⟩) 0 rfl rfl _ rg_C rg_n rfl rfl (Nat.le_of_ble_eq_true rfl) ⟨Nat.zero_le _, Nat.zero_le _⟩ dX4_join_114) (wM g b v7) (rg_put (wM_len.trans wM_len.symm)) (rg_len (wM_len.trans wM_len.symm)) 117 rfl ?_
            refine g_lconst C dX4_join_117 0 (by decide) 118 rfl ?_
            refine g_lstore C dX4_join_118 [_, _, _, _, _, _, _, _, _, _, _, _, _, _, _, _] (Nat.le_of_ble_eq_true rfl) rfl rfl 120 rfl ?_
            refine g_iconst C dX4_join_120 0 ic_0 121 rfl ?_
            refine g_istore C dX4_join_121 [_, _, _, _, _, _, _, _, _, _, _, _, _, _, _, _] (Nat.le_of_ble_eq_true rfl) rfl rfl 123 rfl ?_
            refine g_lv [some (.ref (b 0)), some (.int p0), some (.int p1), some (.int p2), some (.int p3), some (.int 0), some (.long v5), none, some (.long (v6 * (Int32.toInt64 ((v4.1 4) (Int32.toNatClampNeg p0))))), none, some (.long 0), none, some (.int 0), none, none, none] (lvLe.sm (lvLe.sm (lvLe.sm (lvLe.sm (lvLe.sm (lvLe.sm (lvLe.sm (lvLe.nn (lvLe.sm (lvLe.nn (lvLe.sm (lvLe.nn (lvLe.sm (lvLe.nn (lvLe.nn (lvLe.nn lvLe.nil)))))))))))))))) ?_
            obtain ⟨v8, hv8, hR⟩ := opt_b hR
            refine k_X4_join_L123 l g C N_ p0 p1 p2 p3 0 v5 (v6 * (Int32.toInt64 ((v4.1 4) (Int32.toNatClampNeg p0)))) v7 N_ 0 0 _ hv8 ?_
            refine g_aload_n C dX4_join_147 rfl 148 rfl ?_
            refine g_aload_n C dX4_join_148 rfl 149 rfl ?_
            refine g_get (v := .ref (b 19)) C (hiC hiA_4) 0 rfl rfl 27 (by decide) (List.mem_cons_of_mem _ wl_82) rfl rfl dX4_join_149 152 rfl ?_
            refine g_iload_n C dX4_join_152 rfl 153 rfl ?_
            obtain ⟨v9, hv9, hR⟩ := opt_b hR
            refine g_callLR C (rn_V C (k_X4_bestNet_2 l g b v7 p2 N_ v9 hv9) (cwV 2 C.1.2.2.2.2 (gdV wl_609 wl_606 wl_607 wl_608 wl_5) rfl rfl rfl hd_X4_bestNet ⟨Nat.le_of_ble_eq_true rfl, Nat.le_of_ble_eq_true rfl⟩) 0 rfl rfl _ rg_C rg_n rfl rfl (Nat.le_of_ble_eq_true rfl) ⟨Nat.zero_le _, Nat.zero_le _⟩ dX4_join_153) 156 rfl ?_
            refine g_aload_n C dX4_join_156 rfl 157 rfl ?_
            refine g_get (v := .ref (b 4)) C (hiC hiA_4) 0 rfl rfl 3 (by decide) (List.mem_cons_of_mem _ wl_69) rfl rfl dX4_join_157 160 rfl ?_
            refine g_iload_n C dX4_join_160 rfl 161 rfl ?_
            obtain ⟨h_161, hR⟩ := opt_n hR
            refine g_iald (f := (v7.1 4)) C 4 rfl h_161 dX4_join_161 162 rfl ?_
            refine g_i2l C dX4_join_162 163 rfl ?_
            refine g_lmul C dX4_join_163 164 rfl ?_
            refine g_lstore C dX4_join_164 [_, _, _, _, _, _, _, _, _, _, _, _, _, _, _, _] (Nat.le_of_ble_eq_true rfl) rfl rfl 166 rfl ?_
            refine g_iconst C dX4_join_166 0 ic_0 167 rfl ?_
            refine g_istore C dX4_join_167 [_, _, _, _, _, _, _, _, _, _, _, _, _, _, _, _] (Nat.le_of_ble_eq_true rfl) rfl rfl 169 rfl ?_
            refine g_lv [some (.ref (b 0)), some (.int p0), some (.int p1), some (.int p2), some (.int p3), some (.int 0), some (.long v5), none, some (.long (v6 * (Int32.toInt64 ((v4.1 4) (Int32.toNatClampNeg p0))))), none, some (.long v8.1), none, some (.long (v9 * (Int32.toInt64 ((v7.1 4) (Int32.toNatClampNeg p1))))), none, some (.int 0), none] (lvLe.sm (lvLe.sm (lvLe.sm (lvLe.sm (lvLe.sm (lvLe.sm (lvLe.sm (lvLe.nn (lvLe.sm (lvLe.nn (lvLe.sm (lvLe.nn (lvLe.sm (lvLe.nn (lvLe.sm (lvLe.nn lvLe.nil)))))))))))))))) ?_
            obtain ⟨v10, hv10, hR⟩ := opt_b hR
            refine k_X4_join_L169 l g C N_ p0 p1 p2 p3 0 v5 (v6 * (Int32.toInt64 ((v4.1 4) (Int32.toNatClampNeg p0)))) v8.1 (v9 * (Int32.toInt64 ((v7.1 4) (Int32.toNatClampNeg p1)))) N_ 0 v7 _ hv10 ?_
            refine g_iconst C dX4_join_189 0 ic_0 190 rfl ?_
            refine g_istore C dX4_join_190 [_, _, _, _, _, _, _, _, _, _, _, _, _, _, _, _] (Nat.le_of_ble_eq_true rfl) rfl rfl 192 rfl ?_
            refine g_lv [some (.ref (b 0)), some (.int p0), some (.int p1), some (.int p2), some (.int p3), some (.int 0), some (.long v5), none, some (.long (v6 * (Int32.toInt64 ((v4.1 4) (Int32.toNatClampNeg p0))))), none, some (.long v8.1), none, some (.long (v9 * (Int32.toInt64 ((v7.1 4) (Int32.toNatClampNeg p1))))), none, some (.int 0), none] (lvLe.sm (lvLe.sm (lvLe.sm (lvLe.sm (lvLe.sm (lvLe.sm (lvLe.sm (lvLe.nn (lvLe.sm (lvLe.nn (lvLe.sm (lvLe.nn (lvLe.sm (lvLe.nn (lvLe.sm (lvLe.nn lvLe.nil)))))))))))))))) ?_
            obtain ⟨v11, hv11, hR⟩ := opt_b hR
            refine k_X4_join_L192 l g C N_ p0 p1 p2 p3 0 v5 (v6 * (Int32.toInt64 ((v4.1 4) (Int32.toNatClampNeg p0)))) v8.1 (v9 * (Int32.toInt64 ((v7.1 4) (Int32.toNatClampNeg p1)))) N_ 0 v10.2 _ hv11 ?_
            refine g_aload_n C dX4_join_254 rfl 255 rfl ?_
            refine g_aload_n C dX4_join_255 rfl 256 rfl ?_
            refine g_get (v := .ref (b 17)) C (hiC hiA_4) 0 rfl rfl 25 (by decide) (List.mem_cons_of_mem _ wl_80) rfl rfl dX4_join_256 259 rfl ?_
            refine g_iload_n C dX4_join_259 rfl 260 rfl ?_
            obtain ⟨v12, hv12, hR⟩ := opt_b hR
            refine g_callLR C (rn_V C (k_X4_bestNet_0 l g b v11.2 p2 N_ v12 hv12) (cwV 2 C.1.2.2.2.2 (gdV wl_609 wl_606 wl_607 wl_608 wl_5) rfl rfl rfl hd_X4_bestNet ⟨Nat.le_of_ble_eq_true rfl, Nat.le_of_ble_eq_true rfl⟩) 0 rfl rfl _ rg_C rg_n rfl rfl (Nat.le_of_ble_eq_true rfl) ⟨Nat.zero_le _, Nat.zero_le _⟩ dX4_join_260) 263 rfl ?_
            refine g_aload_n C dX4_join_263 rfl 264 rfl ?_
            refine g_get (v := .ref (b 4)) C (hiC hiA_4) 0 rfl rfl 3 (by decide) (List.mem_cons_of_mem _ wl_69) rfl rfl dX4_join_264 267 rfl ?_
            refine g_iload_n C dX4_join_267 rfl 268 rfl ?_
            obtain ⟨h_268, hR⟩ := opt_n hR
            refine g_iald (f := (v11.2.1 4)) C 4 rfl h_268 dX4_join_268 269 rfl ?_
            refine g_aload_n C dX4_join_269 rfl 270 rfl ?_
            refine g_get (v := .ref (b 4)) C (hiC hiA_4) 0 rfl rfl 3 (by decide) (List.mem_cons_of_mem _ wl_69) rfl rfl dX4_join_270 273 rfl ?_
            refine g_iload_n C dX4_join_273 rfl 274 rfl ?_
            obtain ⟨h_274, hR⟩ := opt_n hR
            refine g_iald (f := (v11.2.1 4)) C 4 rfl h_274 dX4_join_274 275 rfl ?_
            refine g_iadd C dX4_join_275 276 rfl ?_
            refine g_i2l C dX4_join_276 277 rfl ?_
            refine g_lmul C dX4_join_277 278 rfl ?_
            refine g_lload C dX4_join_278 rfl 280 rfl ?_
            refine g_lload C dX4_join_280 rfl 282 rfl ?_
            refine g_lmul C dX4_join_282 283 rfl ?_
            refine g_lsub C dX4_join_283 284 rfl ?_
            refine g_lload C dX4_join_284 rfl 286 rfl ?_
            refine g_lload C dX4_join_286 rfl 288 rfl ?_
            refine g_lmul C dX4_join_288 289 rfl ?_
            refine g_lsub C dX4_join_289 290 rfl ?_
            refine g_lstore C dX4_join_290 [_, _, _, _, _, _, _, _, _, _, _, _, _, _, _, _] (Nat.le_of_ble_eq_true rfl) rfl rfl 292 rfl ?_
            refine g_lload C dX4_join_292 rfl 294 rfl ?_
            refine g_lload C dX4_join_294 rfl 296 rfl ?_
            refine g_lload C dX4_join_296 rfl 298 rfl ?_
            refine g_lmul C dX4_join_298 299 rfl ?_
            refine g_iload C dX4_join_299 rfl 301 rfl ?_
            obtain ⟨v13, hv13, hR⟩ := opt_b hR
            refine g_callLR C (rn_S C (k_X4_partOf l g (((v12 * (Int32.toInt64 (((v11.2.1 4) (Int32.toNatClampNeg p0)) + ((v11.2.1 4) (Int32.toNatClampNeg p1))))) - ((v6 * (Int32.toInt64 ((v4.1 4) (Int32.toNatClampNeg p0)))) * v8.1)) - ((v9 * (Int32.toInt64 ((v7.1 4) (Int32.toNatClampNeg p1)))) * v5)) (v5 * v8.1) p3 N_ v13 hv13) (va_cwS 3 C.1.2.2.2.2 (gdS wl_495 wl_493 wl_494 wl_5) rfl rfl rfl hd_X4_partOf.2 ⟨Nat.le_of_ble_eq_true rfl, Nat.le_of_ble_eq_true rfl⟩) [] rfl rfl rfl rfl (Nat.le_of_ble_eq_true rfl) ⟨Nat.zero_le _, Nat.zero_le _⟩ dX4_join_301) 304 rfl ?_
            obtain rfl := Option.some.inj hR
            exact g_lret C hr hlocks hA (by first | (dsimp only; done) | rfl) (by first | (dsimp only; done) | rfl) dX4_join_304
          · refine g_bipush C dX4_join_42 (-2) bp_m2 44 rfl ?_
            refine g_goto C dX4_join_44 48 (by decide) ?_
            refine g_istore C dX4_join_48 [_, _, _, _, _, _, _, _, _, _, _, _, _, _, _, _] (Nat.le_of_ble_eq_true rfl) rfl rfl 50 rfl ?_
            refine g_iload C dX4_join_50 rfl 52 rfl ?_
            refine g_if_eqF C dX4_join_52 (by decide) 62 55 (by decide) rfl ?_
            refine g_aload_n C dX4_join_55 rfl 56 rfl ?_
            refine g_iload C dX4_join_56 rfl 58 rfl ?_
            obtain ⟨v14, hv14, hR⟩ := opt_b hR
            refine g_callL C (rn_V C (k_X4_lowest l g b S (-2) N_ v14 hv14) (cwV 1 C.1.2.2.2.2 (gdV wl_462 wl_459 wl_460 wl_461 wl_5) rfl rfl rfl hd_X4_lowest ⟨Nat.le_of_ble_eq_true rfl, Nat.le_of_ble_eq_true rfl⟩) 0 rfl rfl _ rg_C rg_n rfl rfl (Nat.le_of_ble_eq_true rfl) ⟨Nat.zero_le _, Nat.zero_le _⟩ dX4_join_58) (wM g b v14.2) (rg_put (wM_len.trans wM_len.symm)) (rg_len (wM_len.trans wM_len.symm)) 61 rfl ?_
            obtain rfl := Option.some.inj hR
            exact g_lret C hr hlocks hA (by first | (dsimp only; done) | rfl) (by first | (dsimp only; done) | rfl) dX4_join_61
        · refine g_iconst C dX4_join_28 (-1) ic_m1 29 rfl ?_
          refine g_goto C dX4_join_29 48 (by decide) ?_
          refine g_istore C dX4_join_48 [_, _, _, _, _, _, _, _, _, _, _, _, _, _, _, _] (Nat.le_of_ble_eq_true rfl) rfl rfl 50 rfl ?_
          refine g_iload C dX4_join_50 rfl 52 rfl ?_
          refine g_if_eqF C dX4_join_52 (by decide) 62 55 (by decide) rfl ?_
          refine g_aload_n C dX4_join_55 rfl 56 rfl ?_
          refine g_iload C dX4_join_56 rfl 58 rfl ?_
          obtain ⟨v15, hv15, hR⟩ := opt_b hR
          refine g_callL C (rn_V C (k_X4_lowest l g b S (-1) N_ v15 hv15) (cwV 1 C.1.2.2.2.2 (gdV wl_462 wl_459 wl_460 wl_461 wl_5) rfl rfl rfl hd_X4_lowest ⟨Nat.le_of_ble_eq_true rfl, Nat.le_of_ble_eq_true rfl⟩) 0 rfl rfl _ rg_C rg_n rfl rfl (Nat.le_of_ble_eq_true rfl) ⟨Nat.zero_le _, Nat.zero_le _⟩ dX4_join_58) (wM g b v15.2) (rg_put (wM_len.trans wM_len.symm)) (rg_len (wM_len.trans wM_len.symm)) 61 rfl ?_
          obtain rfl := Option.some.inj hR
          exact g_lret C hr hlocks hA (by first | (dsimp only; done) | rfl) (by first | (dsimp only; done) | rfl) dX4_join_61
theorem hd_X4_larderBy : yX4_larderBy.cls = RX4 ∧ yX4_larderBy.cls ≠ "java/lang/invoke/MethodHandle" ∧ yX4_larderBy.cls ≠ "java/lang/invoke/VarHandle" ∧ (parseMethodDescriptor yX4_larderBy.desc).map (fun d => d.parameters.length) = some 4 := by decide +kernel
def f_X4_larderBy_L3  (N_ : Nat) : Nat → Int32 → ((Nat → Nat → Int32) × (Nat → Nat → Int64)) → Option (Int32 × ((Nat → Nat → Int32) × (Nat → Nat → Int64)))
  | 0, _, _ => none
  | n_ + 1, x5, S =>
    if 4 ≤ x5 then
      some (x5, S)
    else
      if x5 < 0 ∨ 4 ≤ (Int32.toNatClampNeg x5) then none else
      f_X4_larderBy_L3 N_ n_ (x5 + 1) ((kS S.1 16 (upd (S.1 16) (Int32.toNatClampNeg x5) 0)), S.2)
set_option maxRecDepth 100000 in
set_option maxHeartbeats 4000000 in
theorem k_X4_larderBy_L3 (l : Launch) (g : gE) {p : Program} {e : Env} {s : State} {m : MethodId} {args : Array Value} {below : List Frame} {meth : Method} {c : Code} {Q : State → Prop} {A : Nat → Prop} {b : Nat → Nat}  (C : Cx p s m args c g A cX4_larderBy 10 wA_X4_larderBy RX4) (N_ : Nat) (x1 : Int32) (x2 : Int32) (x3 : Int32) (x4 : Int32) : ∀ (n_ : Nat) (x5 : Int32) (S : (Nat → Nat → Int32) × (Nat → Nat → Int64)) (rv_ : Int32 × ((Nat → Nat → Int32) × (Nat → Nat → Int64))), f_X4_larderBy_L3 N_ n_ x5 S = some rv_ → (Gm p l e (headSpec wA_X4_larderBy ({ frames := 0, cells := 0, slots := 0, locals := 0 } : Room)).room s m args below meth c Q g A 10 0 0 (wM g b rv_.2) [some (.ref (b 0)), some (.int x1), some (.int x2), some (.int x3), some (.int x4), some (.int rv_.1), none, none, none, none] [] 23) → Gm p l e (headSpec wA_X4_larderBy ({ frames := 0, cells := 0, slots := 0, locals := 0 } : Room)).room s m args below meth c Q g A 10 0 0 (wM g b S) [some (.ref (b 0)), some (.int x1), some (.int x2), some (.int x3), some (.int x4), some (.int x5), none, none, none, none] [] 3 := by
  intro n_
  induction n_ with
  | zero =>
    intro x5 S rv_ hR
    simp [f_X4_larderBy_L3] at hR
  | succ n_ ih =>
    intro x5 S rv_ hR hk
    rw [f_X4_larderBy_L3] at hR
    refine g_iload C dX4_larderBy_3 rfl 5 rfl ?_
    refine g_iconst C dX4_larderBy_5 4 ic_4 6 rfl ?_
    refine g_icmp_ge C dX4_larderBy_6 hR 23 9 (by decide) rfl (fun c_6 hR => ?_) (fun c_6 hR => ?_)
    · obtain rfl := Option.some.inj hR
      refine g_lv [some (.ref (b 0)), some (.int x1), some (.int x2), some (.int x3), some (.int x4), some (.int x5), none, none, none, none] (lvLe.sm (lvLe.sm (lvLe.sm (lvLe.sm (lvLe.sm (lvLe.sm (lvLe.nn (lvLe.nn (lvLe.nn (lvLe.nn lvLe.nil)))))))))) ?_
      exact hk
    · refine g_aload_n C dX4_larderBy_9 rfl 10 rfl ?_
      refine g_get (v := .ref (b 16)) C (hiC hiA_4) 0 rfl rfl 29 (by decide) (List.mem_cons_of_mem _ wl_84) rfl rfl dX4_larderBy_10 13 rfl ?_
      refine g_iload C dX4_larderBy_13 rfl 15 rfl ?_
      refine g_iconst C dX4_larderBy_15 0 ic_0 16 rfl ?_
      obtain ⟨h_16, hR⟩ := opt_n hR
      refine g_iast (f := (S.1 16)) C 16 rfl h_16 dX4_larderBy_16 (wMr g b (S.1 0 0) (S.1 0 1) (S.1 0 2) (S.1 0 3) (S.1 0 4) (S.1 0 5) (S.1 0 6) (S.1 0 7) (S.1 0 8) (S.1 0 9) (S.1 0 10) (S.1 0 11) (S.1 0 12) (S.1 0 13) (S.1 0 14) (S.1 1) (S.1 2) (S.1 3) (S.1 4) (S.1 5) (S.1 6) (S.1 7) (S.1 8) (S.1 9) (S.1 10) (S.1 11) (S.1 12) (S.1 13) (S.1 14) (S.1 15) (upd (S.1 16) (Int32.toNatClampNeg x5) 0) (S.2 0) (S.2 1) (S.2 2)) rfl 17 rfl ?_
      refine g_iinc C dX4_larderBy_17 rfl 1 ic_1 [_, _, _, _, _, _, _, _, _, _] (Nat.le_of_ble_eq_true rfl) rfl rfl 20 rfl ?_
      refine g_goto C dX4_larderBy_20 3 (by decide) ?_
      refine g_lv [some (.ref (b 0)), some (.int x1), some (.int x2), some (.int x3), some (.int x4), some (.int (x5 + 1)), none, none, none, none] (lvLe.sm (lvLe.sm (lvLe.sm (lvLe.sm (lvLe.sm (lvLe.sm (lvLe.nn (lvLe.nn (lvLe.nn (lvLe.nn lvLe.nil)))))))))) ?_
      exact ih _ _ rv_ hR hk
def f_X4_larderBy_L76  (N_ : Nat) : Nat → Int32 → Int32 → ((Nat → Nat → Int32) × (Nat → Nat → Int64)) → Option (Int32 × Int32 × ((Nat → Nat → Int32) × (Nat → Nat → Int64)))
  | 0, _, _, _ => none
  | n_ + 1, x7, x8, S =>
    if x8 < 0 then
      some (x7, x8, S)
    else
      if x8 < 0 ∨ 4 ≤ (Int32.toNatClampNeg x8) then none else
      if ((S.1 16) (Int32.toNatClampNeg x8)) ≤ x7 then
        if x8 < 0 ∨ 4 ≤ (Int32.toNatClampNeg x8) then none else
        if x8 < 0 ∨ 4 ≤ (Int32.toNatClampNeg x8) then none else
        if x8 < 0 ∨ 4 ≤ (Int32.toNatClampNeg x8) then none else
        f_X4_larderBy_L76 N_ n_ (x7 - ((S.1 16) (Int32.toNatClampNeg x8))) (x8 + (-1)) ((kS S.1 16 (upd (S.1 16) (Int32.toNatClampNeg x8) (((S.1 16) (Int32.toNatClampNeg x8)) - ((S.1 16) (Int32.toNatClampNeg x8))))), S.2)
      else
        if x8 < 0 ∨ 4 ≤ (Int32.toNatClampNeg x8) then none else
        if x8 < 0 ∨ 4 ≤ (Int32.toNatClampNeg x8) then none else
        f_X4_larderBy_L76 N_ n_ (x7 - x7) (x8 + (-1)) ((kS S.1 16 (upd (S.1 16) (Int32.toNatClampNeg x8) (((S.1 16) (Int32.toNatClampNeg x8)) - x7))), S.2)
set_option maxRecDepth 100000 in
set_option maxHeartbeats 4000000 in
theorem k_X4_larderBy_L76 (l : Launch) (g : gE) {p : Program} {e : Env} {s : State} {m : MethodId} {args : Array Value} {below : List Frame} {meth : Method} {c : Code} {Q : State → Prop} {A : Nat → Prop} {b : Nat → Nat}  (C : Cx p s m args c g A cX4_larderBy 10 wA_X4_larderBy RX4) (N_ : Nat) (x1 : Int32) (x2 : Int32) (x3 : Int32) (x4 : Int32) (x5 : Int32) (x6 : Int32) : ∀ (n_ : Nat) (x7 : Int32) (x8 : Int32) (S : (Nat → Nat → Int32) × (Nat → Nat → Int64)) (rv_ : Int32 × Int32 × ((Nat → Nat → Int32) × (Nat → Nat → Int64))), f_X4_larderBy_L76 N_ n_ x7 x8 S = some rv_ → (Gm p l e (headSpec wA_X4_larderBy ({ frames := 0, cells := 0, slots := 0, locals := 0 } : Room)).room s m args below meth c Q g A 10 0 0 (wM g b rv_.2.2) [some (.ref (b 0)), some (.int x1), some (.int x2), some (.int x3), some (.int x4), some (.int x5), some (.int x6), some (.int rv_.1), some (.int rv_.2.1), none] [] 132) → Gm p l e (headSpec wA_X4_larderBy ({ frames := 0, cells := 0, slots := 0, locals := 0 } : Room)).room s m args below meth c Q g A 10 0 0 (wM g b S) [some (.ref (b 0)), some (.int x1), some (.int x2), some (.int x3), some (.int x4), some (.int x5), some (.int x6), some (.int x7), some (.int x8), none] [] 76 := by
  intro n_
  induction n_ with
  | zero =>
    intro x7 x8 S rv_ hR
    simp [f_X4_larderBy_L76] at hR
  | succ n_ ih =>
    intro x7 x8 S rv_ hR hk
    rw [f_X4_larderBy_L76] at hR
    refine g_iload C dX4_larderBy_76 rfl 78 rfl ?_
    refine g_if_lt C dX4_larderBy_78 hR 132 81 (by decide) rfl (fun c_78 hR => ?_) (fun c_78 hR => ?_)
    · obtain rfl := Option.some.inj hR
      refine g_lv [some (.ref (b 0)), some (.int x1), some (.int x2), some (.int x3), some (.int x4), some (.int x5), some (.int x6), some (.int x7), some (.int x8), none] (lvLe.sm (lvLe.sm (lvLe.sm (lvLe.sm (lvLe.sm (lvLe.sm (lvLe.sm (lvLe.sm (lvLe.sm (lvLe.nn lvLe.nil)))))))))) ?_
      exact hk
    · refine g_iload C dX4_larderBy_81 rfl 83 rfl ?_
      refine g_aload_n C dX4_larderBy_83 rfl 84 rfl ?_
      refine g_get (v := .ref (b 16)) C (hiC hiA_4) 0 rfl rfl 29 (by decide) (List.mem_cons_of_mem _ wl_84) rfl rfl dX4_larderBy_84 87 rfl ?_
      refine g_iload C dX4_larderBy_87 rfl 89 rfl ?_
      obtain ⟨h_89, hR⟩ := opt_n hR
      refine g_iald (f := (S.1 16)) C 16 rfl h_89 dX4_larderBy_89 90 rfl ?_
      refine g_icmp_ge C dX4_larderBy_90 hR 98 93 (by decide) rfl (fun c_90 hR => ?_) (fun c_90 hR => ?_)
      · refine g_aload_n C dX4_larderBy_98 rfl 99 rfl ?_
        refine g_get (v := .ref (b 16)) C (hiC hiA_4) 0 rfl rfl 29 (by decide) (List.mem_cons_of_mem _ wl_84) rfl rfl dX4_larderBy_99 102 rfl ?_
        refine g_iload C dX4_larderBy_102 rfl 104 rfl ?_
        obtain ⟨h_104, hR⟩ := opt_n hR
        refine g_iald (f := (S.1 16)) C 16 rfl h_104 dX4_larderBy_104 105 rfl ?_
        refine g_istore C dX4_larderBy_105 [_, _, _, _, _, _, _, _, _, _] (Nat.le_of_ble_eq_true rfl) rfl rfl 107 rfl ?_
        refine g_aload_n C dX4_larderBy_107 rfl 108 rfl ?_
        refine g_get (v := .ref (b 16)) C (hiC hiA_4) 0 rfl rfl 29 (by decide) (List.mem_cons_of_mem _ wl_84) rfl rfl dX4_larderBy_108 111 rfl ?_
        refine g_iload C dX4_larderBy_111 rfl 113 rfl ?_
        refine g_dup2 C dX4_larderBy_113 rfl rfl 114 rfl ?_
        obtain ⟨h_114, hR⟩ := opt_n hR
        refine g_iald (f := (S.1 16)) C 16 rfl h_114 dX4_larderBy_114 115 rfl ?_
        refine g_iload C dX4_larderBy_115 rfl 117 rfl ?_
        refine g_isub C dX4_larderBy_117 118 rfl ?_
        obtain ⟨h_118, hR⟩ := opt_n hR
        refine g_iast (f := (S.1 16)) C 16 rfl h_118 dX4_larderBy_118 (wMr g b (S.1 0 0) (S.1 0 1) (S.1 0 2) (S.1 0 3) (S.1 0 4) (S.1 0 5) (S.1 0 6) (S.1 0 7) (S.1 0 8) (S.1 0 9) (S.1 0 10) (S.1 0 11) (S.1 0 12) (S.1 0 13) (S.1 0 14) (S.1 1) (S.1 2) (S.1 3) (S.1 4) (S.1 5) (S.1 6) (S.1 7) (S.1 8) (S.1 9) (S.1 10) (S.1 11) (S.1 12) (S.1 13) (S.1 14) (S.1 15) (upd (S.1 16) (Int32.toNatClampNeg x8) (((S.1 16) (Int32.toNatClampNeg x8)) - ((S.1 16) (Int32.toNatClampNeg x8)))) (S.2 0) (S.2 1) (S.2 2)) rfl 119 rfl ?_
        refine g_iload C dX4_larderBy_119 rfl 121 rfl ?_
        refine g_iload C dX4_larderBy_121 rfl 123 rfl ?_
        refine g_isub C dX4_larderBy_123 124 rfl ?_
        refine g_istore C dX4_larderBy_124 [_, _, _, _, _, _, _, _, _, _] (Nat.le_of_ble_eq_true rfl) rfl rfl 126 rfl ?_
        refine g_iinc C dX4_larderBy_126 rfl (-1) ic_m1 [_, _, _, _, _, _, _, _, _, _] (Nat.le_of_ble_eq_true rfl) rfl rfl 129 rfl ?_
        refine g_goto C dX4_larderBy_129 76 (by decide) ?_
        refine g_lv [some (.ref (b 0)), some (.int x1), some (.int x2), some (.int x3), some (.int x4), some (.int x5), some (.int x6), some (.int (x7 - ((S.1 16) (Int32.toNatClampNeg x8)))), some (.int (x8 + (-1))), none] (lvLe.sm (lvLe.sm (lvLe.sm (lvLe.sm (lvLe.sm (lvLe.sm (lvLe.sm (lvLe.sm (lvLe.sm (lvLe.nn lvLe.nil)))))))))) ?_
        exact ih _ _ _ rv_ hR hk
      · refine g_iload C dX4_larderBy_93 rfl 95 rfl ?_
        refine g_goto C dX4_larderBy_95 105 (by decide) ?_
        refine g_istore C dX4_larderBy_105 [_, _, _, _, _, _, _, _, _, _] (Nat.le_of_ble_eq_true rfl) rfl rfl 107 rfl ?_
        refine g_aload_n C dX4_larderBy_107 rfl 108 rfl ?_
        refine g_get (v := .ref (b 16)) C (hiC hiA_4) 0 rfl rfl 29 (by decide) (List.mem_cons_of_mem _ wl_84) rfl rfl dX4_larderBy_108 111 rfl ?_
        refine g_iload C dX4_larderBy_111 rfl 113 rfl ?_
        refine g_dup2 C dX4_larderBy_113 rfl rfl 114 rfl ?_
        obtain ⟨h_114, hR⟩ := opt_n hR
        refine g_iald (f := (S.1 16)) C 16 rfl h_114 dX4_larderBy_114 115 rfl ?_
        refine g_iload C dX4_larderBy_115 rfl 117 rfl ?_
        refine g_isub C dX4_larderBy_117 118 rfl ?_
        obtain ⟨h_118, hR⟩ := opt_n hR
        refine g_iast (f := (S.1 16)) C 16 rfl h_118 dX4_larderBy_118 (wMr g b (S.1 0 0) (S.1 0 1) (S.1 0 2) (S.1 0 3) (S.1 0 4) (S.1 0 5) (S.1 0 6) (S.1 0 7) (S.1 0 8) (S.1 0 9) (S.1 0 10) (S.1 0 11) (S.1 0 12) (S.1 0 13) (S.1 0 14) (S.1 1) (S.1 2) (S.1 3) (S.1 4) (S.1 5) (S.1 6) (S.1 7) (S.1 8) (S.1 9) (S.1 10) (S.1 11) (S.1 12) (S.1 13) (S.1 14) (S.1 15) (upd (S.1 16) (Int32.toNatClampNeg x8) (((S.1 16) (Int32.toNatClampNeg x8)) - x7)) (S.2 0) (S.2 1) (S.2 2)) rfl 119 rfl ?_
        refine g_iload C dX4_larderBy_119 rfl 121 rfl ?_
        refine g_iload C dX4_larderBy_121 rfl 123 rfl ?_
        refine g_isub C dX4_larderBy_123 124 rfl ?_
        refine g_istore C dX4_larderBy_124 [_, _, _, _, _, _, _, _, _, _] (Nat.le_of_ble_eq_true rfl) rfl rfl 126 rfl ?_
        refine g_iinc C dX4_larderBy_126 rfl (-1) ic_m1 [_, _, _, _, _, _, _, _, _, _] (Nat.le_of_ble_eq_true rfl) rfl rfl 129 rfl ?_
        refine g_goto C dX4_larderBy_129 76 (by decide) ?_
        refine g_lv [some (.ref (b 0)), some (.int x1), some (.int x2), some (.int x3), some (.int x4), some (.int x5), some (.int x6), some (.int (x7 - x7)), some (.int (x8 + (-1))), none] (lvLe.sm (lvLe.sm (lvLe.sm (lvLe.sm (lvLe.sm (lvLe.sm (lvLe.sm (lvLe.sm (lvLe.sm (lvLe.nn lvLe.nil)))))))))) ?_
        exact ih _ _ _ rv_ hR hk
def f_X4_larderBy_L29 (x1 : Int32) (x2 : Int32) (x3 : Int32) (x4 : Int32) (N_ : Nat) : Nat → Int32 → Int32 → ((Nat → Nat → Int32) × (Nat → Nat → Int64)) → Option (Int32 × Int32 × ((Nat → Nat → Int32) × (Nat → Nat → Int64)))
  | 0, _, _, _ => none
  | n_ + 1, x5, x6, S =>
    if x1 ≤ x6 then
      some (x5, x6, S)
    else
      if x2 = 0 then none else
      if (x6 - x6 / x2 * x2) = 0 then
        if (x6 - x6 / 7 * 7) < 0 ∨ 12 ≤ (Int32.toNatClampNeg (x6 - x6 / 7 * 7)) then none else
        (f_X4_larderBy_L76 N_ N_ ((S.1 15) (Int32.toNatClampNeg (x6 - x6 / 7 * 7))) 2 ((kS S.1 16 (upd (S.1 16) (Int32.toNatClampNeg 0) (((S.1 16) (Int32.toNatClampNeg 0)) + x3))), S.2)).bind fun v12 =>
        (some (((x5 + (x3 * x4)) + ((9 * v12.1) + ((v12.2.2.1 0 4) * ((v12.2.2.1 16) (Int32.toNatClampNeg 2))))) : Int32)).bind fun v13 =>
        f_X4_larderBy_L29 x1 x2 x3 x4 N_ n_ v13 (x6 + 1) ((kS v12.2.2.1 16 (upd (upd (upd (v12.2.2.1 16) (Int32.toNatClampNeg 2) ((v12.2.2.1 16) (Int32.toNatClampNeg 1))) (Int32.toNatClampNeg 1) ((upd (v12.2.2.1 16) (Int32.toNatClampNeg 2) ((v12.2.2.1 16) (Int32.toNatClampNeg 1))) (Int32.toNatClampNeg 0))) (Int32.toNatClampNeg 0) 0)), v12.2.2.2)
      else
        if (x6 - x6 / 7 * 7) < 0 ∨ 12 ≤ (Int32.toNatClampNeg (x6 - x6 / 7 * 7)) then none else
        (f_X4_larderBy_L76 N_ N_ ((S.1 15) (Int32.toNatClampNeg (x6 - x6 / 7 * 7))) 2 S).bind fun v10 =>
        (some ((x5 + ((9 * v10.1) + ((v10.2.2.1 0 4) * ((v10.2.2.1 16) (Int32.toNatClampNeg 2))))) : Int32)).bind fun v11 =>
        f_X4_larderBy_L29 x1 x2 x3 x4 N_ n_ v11 (x6 + 1) ((kS v10.2.2.1 16 (upd (upd (upd (v10.2.2.1 16) (Int32.toNatClampNeg 2) ((v10.2.2.1 16) (Int32.toNatClampNeg 1))) (Int32.toNatClampNeg 1) ((upd (v10.2.2.1 16) (Int32.toNatClampNeg 2) ((v10.2.2.1 16) (Int32.toNatClampNeg 1))) (Int32.toNatClampNeg 0))) (Int32.toNatClampNeg 0) 0)), v10.2.2.2)
set_option maxRecDepth 100000 in
set_option maxHeartbeats 4000000 in
theorem k_X4_larderBy_L29 (l : Launch) (g : gE) {p : Program} {e : Env} {s : State} {m : MethodId} {args : Array Value} {below : List Frame} {meth : Method} {c : Code} {Q : State → Prop} {A : Nat → Prop} {b : Nat → Nat}  (C : Cx p s m args c g A cX4_larderBy 10 wA_X4_larderBy RX4) (N_ : Nat) (x1 : Int32) (x2 : Int32) (x3 : Int32) (x4 : Int32) : ∀ (n_ : Nat) (x5 : Int32) (x6 : Int32) (S : (Nat → Nat → Int32) × (Nat → Nat → Int64)) (rv_ : Int32 × Int32 × ((Nat → Nat → Int32) × (Nat → Nat → Int64))), f_X4_larderBy_L29 x1 x2 x3 x4 N_ n_ x5 x6 S = some rv_ → (Gm p l e (headSpec wA_X4_larderBy ({ frames := 0, cells := 0, slots := 0, locals := 0 } : Room)).room s m args below meth c Q g A 10 0 0 (wM g b rv_.2.2) [some (.ref (b 0)), some (.int x1), some (.int x2), some (.int x3), some (.int x4), some (.int rv_.1), some (.int rv_.2.1), none, none, none] [] 191) → Gm p l e (headSpec wA_X4_larderBy ({ frames := 0, cells := 0, slots := 0, locals := 0 } : Room)).room s m args below meth c Q g A 10 0 0 (wM g b S) [some (.ref (b 0)), some (.int x1), some (.int x2), some (.int x3), some (.int x4), some (.int x5), some (.int x6), none, none, none] [] 29 := by
  intro n_
  induction n_ with
  | zero =>
    intro x5 x6 S rv_ hR
    simp [f_X4_larderBy_L29] at hR
  | succ n_ ih =>
    intro x5 x6 S rv_ hR hk
    rw [f_X4_larderBy_L29] at hR
    refine g_iload C dX4_larderBy_29 rfl 31 rfl ?_
    refine g_iload_n C dX4_larderBy_31 rfl 32 rfl ?_
    refine g_icmp_ge C dX4_larderBy_32 hR 191 35 (by decide) rfl (fun c_32 hR => ?_) (fun c_32 hR => ?_)
    · obtain rfl := Option.some.inj hR
      refine g_lv [some (.ref (b 0)), some (.int x1), some (.int x2), some (.int x3), some (.int x4), some (.int x5), some (.int x6), none, none, none] (lvLe.sm (lvLe.sm (lvLe.sm (lvLe.sm (lvLe.sm (lvLe.sm (lvLe.sm (lvLe.nn (lvLe.nn (lvLe.nn lvLe.nil)))))))))) ?_
      exact hk
    · refine g_iload C dX4_larderBy_35 rfl 37 rfl ?_
      refine g_iload_n C dX4_larderBy_37 rfl 38 rfl ?_
      obtain ⟨h_38, hR⟩ := opt_n hR
      refine g_irem C dX4_larderBy_38 h_38 39 rfl ?_
      refine g_if_ne C dX4_larderBy_39 hR 61 42 (by decide) rfl (fun c_39 hR => ?_) (fun c_39 hR => ?_)
      · refine g_aload_n C dX4_larderBy_61 rfl 62 rfl ?_
        refine g_get (v := .ref (b 15)) C (hiC hiA_4) 0 rfl rfl 28 (by decide) (List.mem_cons_of_mem _ wl_83) rfl rfl dX4_larderBy_62 65 rfl ?_
        refine g_iload C dX4_larderBy_65 rfl 67 rfl ?_
        refine g_bipush C dX4_larderBy_67 7 bp_7 69 rfl ?_
        refine g_irem C dX4_larderBy_69 (by decide) 70 rfl ?_
        obtain ⟨h_70, hR⟩ := opt_n hR
        refine g_iald (f := (S.1 15)) C 15 rfl h_70 dX4_larderBy_70 71 rfl ?_
        refine g_istore C dX4_larderBy_71 [_, _, _, _, _, _, _, _, _, _] (Nat.le_of_ble_eq_true rfl) rfl rfl 73 rfl ?_
        refine g_iconst C dX4_larderBy_73 2 ic_2 74 rfl ?_
        refine g_istore C dX4_larderBy_74 [_, _, _, _, _, _, _, _, _, _] (Nat.le_of_ble_eq_true rfl) rfl rfl 76 rfl ?_
        refine g_lv [some (.ref (b 0)), some (.int x1), some (.int x2), some (.int x3), some (.int x4), some (.int x5), some (.int x6), some (.int ((S.1 15) (Int32.toNatClampNeg (x6 - x6 / 7 * 7)))), some (.int 2), none] (lvLe.sm (lvLe.sm (lvLe.sm (lvLe.sm (lvLe.sm (lvLe.sm (lvLe.sm (lvLe.sm (lvLe.sm (lvLe.nn lvLe.nil)))))))))) ?_
        obtain ⟨v10, hv10, hR⟩ := opt_b hR
        refine k_X4_larderBy_L76 l g C N_ x1 x2 x3 x4 x5 x6 N_ ((S.1 15) (Int32.toNatClampNeg (x6 - x6 / 7 * 7))) 2 S _ hv10 ?_
        refine g_iload C dX4_larderBy_132 rfl 134 rfl ?_
        refine g_bipush C dX4_larderBy_134 9 bp_9 136 rfl ?_
        refine g_iload C dX4_larderBy_136 rfl 138 rfl ?_
        refine g_imul C dX4_larderBy_138 139 rfl ?_
        refine g_aload_n C dX4_larderBy_139 rfl 140 rfl ?_
        refine g_get (v := .int (v10.2.2.1 0 4)) C (hiC hiA_4) 0 rfl rfl 13 (by decide) (List.mem_cons_of_mem _ wl_85) rfl rfl dX4_larderBy_140 143 rfl ?_
        refine g_aload_n C dX4_larderBy_143 rfl 144 rfl ?_
        refine g_get (v := .ref (b 16)) C (hiC hiA_4) 0 rfl rfl 29 (by decide) (List.mem_cons_of_mem _ wl_84) rfl rfl dX4_larderBy_144 147 rfl ?_
        refine g_iconst C dX4_larderBy_147 2 ic_2 148 rfl ?_
        refine g_iald (f := (v10.2.2.1 16)) C 16 rfl (by unfold vp_in; decide) dX4_larderBy_148 149 rfl ?_
        refine g_imul C dX4_larderBy_149 150 rfl ?_
        refine g_iadd C dX4_larderBy_150 151 rfl ?_
        refine g_iadd C dX4_larderBy_151 152 rfl ?_
        obtain ⟨v11, hv11, hR⟩ := opt_b hR
        refine g_topI (Option.some.inj hv11) ?_
        refine g_istore C dX4_larderBy_152 [_, _, _, _, _, _, _, _, _, _] (Nat.le_of_ble_eq_true rfl) rfl rfl 154 rfl ?_
        refine g_aload_n C dX4_larderBy_154 rfl 155 rfl ?_
        refine g_get (v := .ref (b 16)) C (hiC hiA_4) 0 rfl rfl 29 (by decide) (List.mem_cons_of_mem _ wl_84) rfl rfl dX4_larderBy_155 158 rfl ?_
        refine g_iconst C dX4_larderBy_158 2 ic_2 159 rfl ?_
        refine g_aload_n C dX4_larderBy_159 rfl 160 rfl ?_
        refine g_get (v := .ref (b 16)) C (hiC hiA_4) 0 rfl rfl 29 (by decide) (List.mem_cons_of_mem _ wl_84) rfl rfl dX4_larderBy_160 163 rfl ?_
        refine g_iconst C dX4_larderBy_163 1 ic_1 164 rfl ?_
        refine g_iald (f := (v10.2.2.1 16)) C 16 rfl (by unfold vp_in; decide) dX4_larderBy_164 165 rfl ?_
        refine g_iast (f := (v10.2.2.1 16)) C 16 rfl (by unfold vp_in; decide) dX4_larderBy_165 (wMr g b (v10.2.2.1 0 0) (v10.2.2.1 0 1) (v10.2.2.1 0 2) (v10.2.2.1 0 3) (v10.2.2.1 0 4) (v10.2.2.1 0 5) (v10.2.2.1 0 6) (v10.2.2.1 0 7) (v10.2.2.1 0 8) (v10.2.2.1 0 9) (v10.2.2.1 0 10) (v10.2.2.1 0 11) (v10.2.2.1 0 12) (v10.2.2.1 0 13) (v10.2.2.1 0 14) (v10.2.2.1 1) (v10.2.2.1 2) (v10.2.2.1 3) (v10.2.2.1 4) (v10.2.2.1 5) (v10.2.2.1 6) (v10.2.2.1 7) (v10.2.2.1 8) (v10.2.2.1 9) (v10.2.2.1 10) (v10.2.2.1 11) (v10.2.2.1 12) (v10.2.2.1 13) (v10.2.2.1 14) (v10.2.2.1 15) (upd (v10.2.2.1 16) (Int32.toNatClampNeg 2) ((v10.2.2.1 16) (Int32.toNatClampNeg 1))) (v10.2.2.2 0) (v10.2.2.2 1) (v10.2.2.2 2)) rfl 166 rfl ?_
        refine g_aload_n C dX4_larderBy_166 rfl 167 rfl ?_
        refine g_get (v := .ref (b 16)) C (hiC hiA_4) 0 rfl rfl 29 (by decide) (List.mem_cons_of_mem _ wl_84) rfl rfl dX4_larderBy_167 170 rfl ?_
        refine g_iconst C dX4_larderBy_170 1 ic_1 171 rfl ?_
        refine g_aload_n C dX4_larderBy_171 rfl 172 rfl ?_
        refine g_get (v := .ref (b 16)) C (hiC hiA_4) 0 rfl rfl 29 (by decide) (List.mem_cons_of_mem _ wl_84) rfl rfl dX4_larderBy_172 175 rfl ?_
        refine g_iconst C dX4_larderBy_175 0 ic_0 176 rfl ?_
        refine g_iald (f := (upd (v10.2.2.1 16) (Int32.toNatClampNeg 2) ((v10.2.2.1 16) (Int32.toNatClampNeg 1)))) C 16 rfl (by unfold vp_in; decide) dX4_larderBy_176 177 rfl ?_
        refine g_iast (f := (upd (v10.2.2.1 16) (Int32.toNatClampNeg 2) ((v10.2.2.1 16) (Int32.toNatClampNeg 1)))) C 16 rfl (by unfold vp_in; decide) dX4_larderBy_177 (wMr g b (v10.2.2.1 0 0) (v10.2.2.1 0 1) (v10.2.2.1 0 2) (v10.2.2.1 0 3) (v10.2.2.1 0 4) (v10.2.2.1 0 5) (v10.2.2.1 0 6) (v10.2.2.1 0 7) (v10.2.2.1 0 8) (v10.2.2.1 0 9) (v10.2.2.1 0 10) (v10.2.2.1 0 11) (v10.2.2.1 0 12) (v10.2.2.1 0 13) (v10.2.2.1 0 14) (v10.2.2.1 1) (v10.2.2.1 2) (v10.2.2.1 3) (v10.2.2.1 4) (v10.2.2.1 5) (v10.2.2.1 6) (v10.2.2.1 7) (v10.2.2.1 8) (v10.2.2.1 9) (v10.2.2.1 10) (v10.2.2.1 11) (v10.2.2.1 12) (v10.2.2.1 13) (v10.2.2.1 14) (v10.2.2.1 15) (upd (upd (v10.2.2.1 16) (Int32.toNatClampNeg 2) ((v10.2.2.1 16) (Int32.toNatClampNeg 1))) (Int32.toNatClampNeg 1) ((upd (v10.2.2.1 16) (Int32.toNatClampNeg 2) ((v10.2.2.1 16) (Int32.toNatClampNeg 1))) (Int32.toNatClampNeg 0))) (v10.2.2.2 0) (v10.2.2.2 1) (v10.2.2.2 2)) rfl 178 rfl ?_
        refine g_aload_n C dX4_larderBy_178 rfl 179 rfl ?_
        refine g_get (v := .ref (b 16)) C (hiC hiA_4) 0 rfl rfl 29 (by decide) (List.mem_cons_of_mem _ wl_84) rfl rfl dX4_larderBy_179 182 rfl ?_
        refine g_iconst C dX4_larderBy_182 0 ic_0 183 rfl ?_
        refine g_iconst C dX4_larderBy_183 0 ic_0 184 rfl ?_
        refine g_iast (f := (upd (upd (v10.2.2.1 16) (Int32.toNatClampNeg 2) ((v10.2.2.1 16) (Int32.toNatClampNeg 1))) (Int32.toNatClampNeg 1) ((upd (v10.2.2.1 16) (Int32.toNatClampNeg 2) ((v10.2.2.1 16) (Int32.toNatClampNeg 1))) (Int32.toNatClampNeg 0)))) C 16 rfl (by unfold vp_in; decide) dX4_larderBy_184 (wMr g b (v10.2.2.1 0 0) (v10.2.2.1 0 1) (v10.2.2.1 0 2) (v10.2.2.1 0 3) (v10.2.2.1 0 4) (v10.2.2.1 0 5) (v10.2.2.1 0 6) (v10.2.2.1 0 7) (v10.2.2.1 0 8) (v10.2.2.1 0 9) (v10.2.2.1 0 10) (v10.2.2.1 0 11) (v10.2.2.1 0 12) (v10.2.2.1 0 13) (v10.2.2.1 0 14) (v10.2.2.1 1) (v10.2.2.1 2) (v10.2.2.1 3) (v10.2.2.1 4) (v10.2.2.1 5) (v10.2.2.1 6) (v10.2.2.1 7) (v10.2.2.1 8) (v10.2.2.1 9) (v10.2.2.1 10) (v10.2.2.1 11) (v10.2.2.1 12) (v10.2.2.1 13) (v10.2.2.1 14) (v10.2.2.1 15) (upd (upd (upd (v10.2.2.1 16) (Int32.toNatClampNeg 2) ((v10.2.2.1 16) (Int32.toNatClampNeg 1))) (Int32.toNatClampNeg 1) ((upd (v10.2.2.1 16) (Int32.toNatClampNeg 2) ((v10.2.2.1 16) (Int32.toNatClampNeg 1))) (Int32.toNatClampNeg 0))) (Int32.toNatClampNeg 0) 0) (v10.2.2.2 0) (v10.2.2.2 1) (v10.2.2.2 2)) rfl 185 rfl ?_
        refine g_iinc C dX4_larderBy_185 rfl 1 ic_1 [_, _, _, _, _, _, _, _, _, _] (Nat.le_of_ble_eq_true rfl) rfl rfl 188 rfl ?_
        refine g_goto C dX4_larderBy_188 29 (by decide) ?_
        refine g_lv [some (.ref (b 0)), some (.int x1), some (.int x2), some (.int x3), some (.int x4), some (.int v11), some (.int (x6 + 1)), none, none, none] (lvLe.sm (lvLe.sm (lvLe.sm (lvLe.sm (lvLe.sm (lvLe.sm (lvLe.sm (lvLe.nn (lvLe.nn (lvLe.nn lvLe.nil)))))))))) ?_
        exact ih _ _ _ rv_ hR hk
      · refine g_aload_n C dX4_larderBy_42 rfl 43 rfl ?_
        refine g_get (v := .ref (b 16)) C (hiC hiA_4) 0 rfl rfl 29 (by decide) (List.mem_cons_of_mem _ wl_84) rfl rfl dX4_larderBy_43 46 rfl ?_
        refine g_iconst C dX4_larderBy_46 0 ic_0 47 rfl ?_
        refine g_dup2 C dX4_larderBy_47 rfl rfl 48 rfl ?_
        refine g_iald (f := (S.1 16)) C 16 rfl (by unfold vp_in; decide) dX4_larderBy_48 49 rfl ?_
        refine g_iload_n C dX4_larderBy_49 rfl 50 rfl ?_
        refine g_iadd C dX4_larderBy_50 51 rfl ?_
        refine g_iast (f := (S.1 16)) C 16 rfl (by unfold vp_in; decide) dX4_larderBy_51 (wMr g b (S.1 0 0) (S.1 0 1) (S.1 0 2) (S.1 0 3) (S.1 0 4) (S.1 0 5) (S.1 0 6) (S.1 0 7) (S.1 0 8) (S.1 0 9) (S.1 0 10) (S.1 0 11) (S.1 0 12) (S.1 0 13) (S.1 0 14) (S.1 1) (S.1 2) (S.1 3) (S.1 4) (S.1 5) (S.1 6) (S.1 7) (S.1 8) (S.1 9) (S.1 10) (S.1 11) (S.1 12) (S.1 13) (S.1 14) (S.1 15) (upd (S.1 16) (Int32.toNatClampNeg 0) (((S.1 16) (Int32.toNatClampNeg 0)) + x3)) (S.2 0) (S.2 1) (S.2 2)) rfl 52 rfl ?_
        refine g_iload C dX4_larderBy_52 rfl 54 rfl ?_
        refine g_iload_n C dX4_larderBy_54 rfl 55 rfl ?_
        refine g_iload C dX4_larderBy_55 rfl 57 rfl ?_
        refine g_imul C dX4_larderBy_57 58 rfl ?_
        refine g_iadd C dX4_larderBy_58 59 rfl ?_
        refine g_istore C dX4_larderBy_59 [_, _, _, _, _, _, _, _, _, _] (Nat.le_of_ble_eq_true rfl) rfl rfl 61 rfl ?_
        refine g_aload_n C dX4_larderBy_61 rfl 62 rfl ?_
        refine g_get (v := .ref (b 15)) C (hiC hiA_4) 0 rfl rfl 28 (by decide) (List.mem_cons_of_mem _ wl_83) rfl rfl dX4_larderBy_62 65 rfl ?_
        refine g_iload C dX4_larderBy_65 rfl 67 rfl ?_
        refine g_bipush C dX4_larderBy_67 7 bp_7 69 rfl ?_
        refine g_irem C dX4_larderBy_69 (by decide) 70 rfl ?_
        obtain ⟨h_70, hR⟩ := opt_n hR
        refine g_iald (f := (S.1 15)) C 15 rfl h_70 dX4_larderBy_70 71 rfl ?_
        refine g_istore C dX4_larderBy_71 [_, _, _, _, _, _, _, _, _, _] (Nat.le_of_ble_eq_true rfl) rfl rfl 73 rfl ?_
        refine g_iconst C dX4_larderBy_73 2 ic_2 74 rfl ?_
        refine g_istore C dX4_larderBy_74 [_, _, _, _, _, _, _, _, _, _] (Nat.le_of_ble_eq_true rfl) rfl rfl 76 rfl ?_
        refine g_lv [some (.ref (b 0)), some (.int x1), some (.int x2), some (.int x3), some (.int x4), some (.int (x5 + (x3 * x4))), some (.int x6), some (.int ((S.1 15) (Int32.toNatClampNeg (x6 - x6 / 7 * 7)))), some (.int 2), none] (lvLe.sm (lvLe.sm (lvLe.sm (lvLe.sm (lvLe.sm (lvLe.sm (lvLe.sm (lvLe.sm (lvLe.sm (lvLe.nn lvLe.nil)))))))))) ?_
        obtain ⟨v12, hv12, hR⟩ := opt_b hR
        refine k_X4_larderBy_L76 l g C N_ x1 x2 x3 x4 (x5 + (x3 * x4)) x6 N_ ((S.1 15) (Int32.toNatClampNeg (x6 - x6 / 7 * 7))) 2 ((kS S.1 16 (upd (S.1 16) (Int32.toNatClampNeg 0) (((S.1 16) (Int32.toNatClampNeg 0)) + x3))), S.2) _ hv12 ?_
        refine g_iload C dX4_larderBy_132 rfl 134 rfl ?_
        refine g_bipush C dX4_larderBy_134 9 bp_9 136 rfl ?_
        refine g_iload C dX4_larderBy_136 rfl 138 rfl ?_
        refine g_imul C dX4_larderBy_138 139 rfl ?_
        refine g_aload_n C dX4_larderBy_139 rfl 140 rfl ?_
        refine g_get (v := .int (v12.2.2.1 0 4)) C (hiC hiA_4) 0 rfl rfl 13 (by decide) (List.mem_cons_of_mem _ wl_85) rfl rfl dX4_larderBy_140 143 rfl ?_
        refine g_aload_n C dX4_larderBy_143 rfl 144 rfl ?_
        refine g_get (v := .ref (b 16)) C (hiC hiA_4) 0 rfl rfl 29 (by decide) (List.mem_cons_of_mem _ wl_84) rfl rfl dX4_larderBy_144 147 rfl ?_
        refine g_iconst C dX4_larderBy_147 2 ic_2 148 rfl ?_
        refine g_iald (f := (v12.2.2.1 16)) C 16 rfl (by unfold vp_in; decide) dX4_larderBy_148 149 rfl ?_
        refine g_imul C dX4_larderBy_149 150 rfl ?_
        refine g_iadd C dX4_larderBy_150 151 rfl ?_
        refine g_iadd C dX4_larderBy_151 152 rfl ?_
        obtain ⟨v13, hv13, hR⟩ := opt_b hR
        refine g_topI (Option.some.inj hv13) ?_
        refine g_istore C dX4_larderBy_152 [_, _, _, _, _, _, _, _, _, _] (Nat.le_of_ble_eq_true rfl) rfl rfl 154 rfl ?_
        refine g_aload_n C dX4_larderBy_154 rfl 155 rfl ?_
        refine g_get (v := .ref (b 16)) C (hiC hiA_4) 0 rfl rfl 29 (by decide) (List.mem_cons_of_mem _ wl_84) rfl rfl dX4_larderBy_155 158 rfl ?_
        refine g_iconst C dX4_larderBy_158 2 ic_2 159 rfl ?_
        refine g_aload_n C dX4_larderBy_159 rfl 160 rfl ?_
        refine g_get (v := .ref (b 16)) C (hiC hiA_4) 0 rfl rfl 29 (by decide) (List.mem_cons_of_mem _ wl_84) rfl rfl dX4_larderBy_160 163 rfl ?_
        refine g_iconst C dX4_larderBy_163 1 ic_1 164 rfl ?_
        refine g_iald (f := (v12.2.2.1 16)) C 16 rfl (by unfold vp_in; decide) dX4_larderBy_164 165 rfl ?_
        refine g_iast (f := (v12.2.2.1 16)) C 16 rfl (by unfold vp_in; decide) dX4_larderBy_165 (wMr g b (v12.2.2.1 0 0) (v12.2.2.1 0 1) (v12.2.2.1 0 2) (v12.2.2.1 0 3) (v12.2.2.1 0 4) (v12.2.2.1 0 5) (v12.2.2.1 0 6) (v12.2.2.1 0 7) (v12.2.2.1 0 8) (v12.2.2.1 0 9) (v12.2.2.1 0 10) (v12.2.2.1 0 11) (v12.2.2.1 0 12) (v12.2.2.1 0 13) (v12.2.2.1 0 14) (v12.2.2.1 1) (v12.2.2.1 2) (v12.2.2.1 3) (v12.2.2.1 4) (v12.2.2.1 5) (v12.2.2.1 6) (v12.2.2.1 7) (v12.2.2.1 8) (v12.2.2.1 9) (v12.2.2.1 10) (v12.2.2.1 11) (v12.2.2.1 12) (v12.2.2.1 13) (v12.2.2.1 14) (v12.2.2.1 15) (upd (v12.2.2.1 16) (Int32.toNatClampNeg 2) ((v12.2.2.1 16) (Int32.toNatClampNeg 1))) (v12.2.2.2 0) (v12.2.2.2 1) (v12.2.2.2 2)) rfl 166 rfl ?_
        refine g_aload_n C dX4_larderBy_166 rfl 167 rfl ?_
        refine g_get (v := .ref (b 16)) C (hiC hiA_4) 0 rfl rfl 29 (by decide) (List.mem_cons_of_mem _ wl_84) rfl rfl dX4_larderBy_167 170 rfl ?_
        refine g_iconst C dX4_larderBy_170 1 ic_1 171 rfl ?_
        refine g_aload_n C dX4_larderBy_171 rfl 172 rfl ?_
        refine g_get (v := .ref (b 16)) C (hiC hiA_4) 0 rfl rfl 29 (by decide) (List.mem_cons_of_mem _ wl_84) rfl rfl dX4_larderBy_172 175 rfl ?_
        refine g_iconst C dX4_larderBy_175 0 ic_0 176 rfl ?_
        refine g_iald (f := (upd (v12.2.2.1 16) (Int32.toNatClampNeg 2) ((v12.2.2.1 16) (Int32.toNatClampNeg 1)))) C 16 rfl (by unfold vp_in; decide) dX4_larderBy_176 177 rfl ?_
        refine g_iast (f := (upd (v12.2.2.1 16) (Int32.toNatClampNeg 2) ((v12.2.2.1 16) (Int32.toNatClampNeg 1)))) C 16 rfl (by unfold vp_in; decide) dX4_larderBy_177 (wMr g b (v12.2.2.1 0 0) (v12.2.2.1 0 1) (v12.2.2.1 0 2) (v12.2.2.1 0 3) (v12.2.2.1 0 4) (v12.2.2.1 0 5) (v12.2.2.1 0 6) (v12.2.2.1 0 7) (v12.2.2.1 0 8) (v12.2.2.1 0 9) (v12.2.2.1 0 10) (v12.2.2.1 0 11) (v12.2.2.1 0 12) (v12.2.2.1 0 13) (v12.2.2.1 0 14) (v12.2.2.1 1) (v12.2.2.1 2) (v12.2.2.1 3) (v12.2.2.1 4) (v12.2.2.1 5) (v12.2.2.1 6) (v12.2.2.1 7) (v12.2.2.1 8) (v12.2.2.1 9) (v12.2.2.1 10) (v12.2.2.1 11) (v12.2.2.1 12) (v12.2.2.1 13) (v12.2.2.1 14) (v12.2.2.1 15) (upd (upd (v12.2.2.1 16) (Int32.toNatClampNeg 2) ((v12.2.2.1 16) (Int32.toNatClampNeg 1))) (Int32.toNatClampNeg 1) ((upd (v12.2.2.1 16) (Int32.toNatClampNeg 2) ((v12.2.2.1 16) (Int32.toNatClampNeg 1))) (Int32.toNatClampNeg 0))) (v12.2.2.2 0) (v12.2.2.2 1) (v12.2.2.2 2)) rfl 178 rfl ?_
        refine g_aload_n C dX4_larderBy_178 rfl 179 rfl ?_
        refine g_get (v := .ref (b 16)) C (hiC hiA_4) 0 rfl rfl 29 (by decide) (List.mem_cons_of_mem _ wl_84) rfl rfl dX4_larderBy_179 182 rfl ?_
        refine g_iconst C dX4_larderBy_182 0 ic_0 183 rfl ?_
        refine g_iconst C dX4_larderBy_183 0 ic_0 184 rfl ?_
        refine g_iast (f := (upd (upd (v12.2.2.1 16) (Int32.toNatClampNeg 2) ((v12.2.2.1 16) (Int32.toNatClampNeg 1))) (Int32.toNatClampNeg 1) ((upd (v12.2.2.1 16) (Int32.toNatClampNeg 2) ((v12.2.2.1 16) (Int32.toNatClampNeg 1))) (Int32.toNatClampNeg 0)))) C 16 rfl (by unfold vp_in; decide) dX4_larderBy_184 (wMr g b (v12.2.2.1 0 0) (v12.2.2.1 0 1) (v12.2.2.1 0 2) (v12.2.2.1 0 3) (v12.2.2.1 0 4) (v12.2.2.1 0 5) (v12.2.2.1 0 6) (v12.2.2.1 0 7) (v12.2.2.1 0 8) (v12.2.2.1 0 9) (v12.2.2.1 0 10) (v12.2.2.1 0 11) (v12.2.2.1 0 12) (v12.2.2.1 0 13) (v12.2.2.1 0 14) (v12.2.2.1 1) (v12.2.2.1 2) (v12.2.2.1 3) (v12.2.2.1 4) (v12.2.2.1 5) (v12.2.2.1 6) (v12.2.2.1 7) (v12.2.2.1 8) (v12.2.2.1 9) (v12.2.2.1 10) (v12.2.2.1 11) (v12.2.2.1 12) (v12.2.2.1 13) (v12.2.2.1 14) (v12.2.2.1 15) (upd (upd (upd (v12.2.2.1 16) (Int32.toNatClampNeg 2) ((v12.2.2.1 16) (Int32.toNatClampNeg 1))) (Int32.toNatClampNeg 1) ((upd (v12.2.2.1 16) (Int32.toNatClampNeg 2) ((v12.2.2.1 16) (Int32.toNatClampNeg 1))) (Int32.toNatClampNeg 0))) (Int32.toNatClampNeg 0) 0) (v12.2.2.2 0) (v12.2.2.2 1) (v12.2.2.2 2)) rfl 185 rfl ?_
        refine g_iinc C dX4_larderBy_185 rfl 1 ic_1 [_, _, _, _, _, _, _, _, _, _] (Nat.le_of_ble_eq_true rfl) rfl rfl 188 rfl ?_
        refine g_goto C dX4_larderBy_188 29 (by decide) ?_
        refine g_lv [some (.ref (b 0)), some (.int x1), some (.int x2), some (.int x3), some (.int x4), some (.int v13), some (.int (x6 + 1)), none, none, none] (lvLe.sm (lvLe.sm (lvLe.sm (lvLe.sm (lvLe.sm (lvLe.sm (lvLe.sm (lvLe.nn (lvLe.nn (lvLe.nn lvLe.nil)))))))))) ?_
        exact ih _ _ _ rv_ hR hk
def f_X4_larderBy (S : (Nat → Nat → Int32) × (Nat → Nat → Int64)) (p0 : Int32) (p1 : Int32) (p2 : Int32) (p3 : Int32) (N_ : Nat) : Option (Int32 × ((Nat → Nat → Int32) × (Nat → Nat → Int64))) :=
  (f_X4_larderBy_L3 N_ N_ 0 S).bind fun v1 =>
  (f_X4_larderBy_L29 p0 p1 p2 p3 N_ N_ 0 0 v1.2).bind fun v14 =>
  some (v14.1, v14.2.2)
set_option maxRecDepth 100000 in
set_option maxHeartbeats 4000000 in
theorem k_X4_larderBy (l : Launch) (g : gE) (b : Nat → Nat) (S : (Nat → Nat → Int32) × (Nat → Nat → Int64)) (p0 : Int32) (p1 : Int32) (p2 : Int32) (p3 : Int32) (N_ : Nat) (R_ : Int32 × ((Nat → Nat → Int32) × (Nat → Nat → Int64))) (hR : f_X4_larderBy S p0 p1 p2 p3 N_ = some R_) : FnI l g yX4_larderBy wA_X4_larderBy { frames := 0, cells := 0, slots := 0, locals := 0 } [.ref (b 0), .int p0, .int p1, .int p2, .int p3] (wM g b S) R_.1 (wM g b R_.2) := by
  refine fEntry (As := [.ref (b 0), .int p0, .int p1, .int p2, .int p3]) (maxL := 10) (ret := (some .int)) (by decide) rfl [some (.ref (b 0)), some (.int p0), some (.int p1), some (.int p2), some (.int p3), none, none, none, none, none] (Nat.le_of_ble_eq_true rfl) (lvInB.to (lvInB.sm (lvInB.sm (lvInB.sm (lvInB.sm (lvInB.sm (lvInB.nn (lvInB.nn (lvInB.nn (lvInB.nn (lvInB.nn lvInB.nil))))))))))) ?_
  intro p e s m below meth c A C hr hlocks hname hA
  have C : Cx p s m _ c g A cX4_larderBy 10 wA_X4_larderBy RX4 := C
  rw [f_X4_larderBy] at hR
  refine g_iconst C dX4_larderBy_0 0 ic_0 1 rfl ?_
  refine g_istore C dX4_larderBy_1 [_, _, _, _, _, _, _, _, _, _] (Nat.le_of_ble_eq_true rfl) rfl rfl 3 rfl ?_
  refine g_lv [some (.ref (b 0)), some (.int p0), some (.int p1), some (.int p2), some (.int p3), some (.int 0), none, none, none, none] (lvLe.sm (lvLe.sm (lvLe.sm (lvLe.sm (lvLe.sm (lvLe.sm (lvLe.nn (lvLe.nn (lvLe.nn (lvLe.nn lvLe.nil)))))))))) ?_
  obtain ⟨v1, hv1, hR⟩ := opt_b hR
  refine k_X4_larderBy_L3 l g C N_ p0 p1 p2 p3 N_ 0 S _ hv1 ?_
  refine g_iconst C dX4_larderBy_23 0 ic_0 24 rfl ?_
  refine g_istore C dX4_larderBy_24 [_, _, _, _, _, _, _, _, _, _] (Nat.le_of_ble_eq_true rfl) rfl rfl 26 rfl ?_
  refine g_iconst C dX4_larderBy_26 0 ic_0 27 rfl ?_
  refine g_istore C dX4_larderBy_27 [_, _, _, _, _, _, _, _, _, _] (Nat.le_of_ble_eq_true rfl) rfl rfl 29 rfl ?_
  refine g_lv [some (.ref (b 0)), some (.int p0), some (.int p1), some (.int p2), some (.int p3), some (.int 0), some (.int 0), none, none, none] (lvLe.sm (lvLe.sm (lvLe.sm (lvLe.sm (lvLe.sm (lvLe.sm (lvLe.sm (lvLe.nn (lvLe.nn (lvLe.nn lvLe.nil)))))))))) ?_
  obtain ⟨v14, hv14, hR⟩ := opt_b hR
  refine k_X4_larderBy_L29 l g C N_ p0 p1 p2 p3 N_ 0 0 v1.2 _ hv14 ?_
  refine g_iload C dX4_larderBy_191 rfl 193 rfl ?_
  obtain rfl := Option.some.inj hR
  exact g_iret C hr hlocks hA (by first | (dsimp only; done) | rfl) (by first | (dsimp only; done) | rfl) dX4_larderBy_193
theorem hd_X4_larder : yX4_larder.cls = RX4 ∧ yX4_larder.cls ≠ "java/lang/invoke/MethodHandle" ∧ yX4_larder.cls ≠ "java/lang/invoke/VarHandle" ∧ (parseMethodDescriptor yX4_larder.desc).map (fun d => d.parameters.length) = some 4 := by decide +kernel
def f_X4_larder (S : (Nat → Nat → Int32) × (Nat → Nat → Int64)) (p0 : Int32) (p1 : Int32) (p2 : Int32) (p3 : Int32) (N_ : Nat) : Option (Int32 × ((Nat → Nat → Int32) × (Nat → Nat → Int64))) :=
  if p0 < 1 then
    (f_X4_no S (-4) N_).bind fun v1 =>
    some (v1.1, v1.2)
  else
    if p1 < 1 then
      (f_X4_no S (-4) N_).bind fun v2 =>
      some (v2.1, v2.2)
    else
      if p2 < 1 then
        (f_X4_no S (-4) N_).bind fun v3 =>
        some (v3.1, v3.2)
      else
        if 0 ≤ p3 then
          if 30 < p0 then
            (f_X4_no S (-6) N_).bind fun v4 =>
            some (v4.1, v4.2)
          else
            if 7 < p1 then
              (f_X4_no S (-6) N_).bind fun v5 =>
              some (v5.1, v5.2)
            else
              if 9 < p2 then
                (f_X4_no S (-6) N_).bind fun v6 =>
                some (v6.1, v6.2)
              else
                if p3 ≤ 9 then
                  if (S.1 0 11) = 7 then
                    (f_X4_larderBy S p0 p1 p2 p3 N_).bind fun v7 =>
                    some (v7.1, v7.2)
                  else
                    (f_X4_no S (-3) N_).bind fun v8 =>
                    some (v8.1, v8.2)
                else
                  (f_X4_no S (-6) N_).bind fun v9 =>
                  some (v9.1, v9.2)
        else
          (f_X4_no S (-4) N_).bind fun v10 =>
          some (v10.1, v10.2)
set_option maxRecDepth 100000 in
set_option maxHeartbeats 4000000 in
theorem k_X4_larder (l : Launch) (g : gE) (b : Nat → Nat) (S : (Nat → Nat → Int32) × (Nat → Nat → Int64)) (p0 : Int32) (p1 : Int32) (p2 : Int32) (p3 : Int32) (N_ : Nat) (R_ : Int32 × ((Nat → Nat → Int32) × (Nat → Nat → Int64))) (hR : f_X4_larder S p0 p1 p2 p3 N_ = some R_) : FnI l g yX4_larder wA_X4_larder { frames := 1, cells := 0, slots := 0, locals := 29 } [.ref (b 0), .int p0, .int p1, .int p2, .int p3] (wM g b S) R_.1 (wM g b R_.2) := by
  refine fEntry (As := [.ref (b 0), .int p0, .int p1, .int p2, .int p3]) (maxL := 6) (ret := (some .int)) (by decide) rfl [some (.ref (b 0)), some (.int p0), some (.int p1), some (.int p2), some (.int p3), none] (Nat.le_of_ble_eq_true rfl) (lvInB.to (lvInB.sm (lvInB.sm (lvInB.sm (lvInB.sm (lvInB.sm (lvInB.nn lvInB.nil))))))) ?_
  intro p e s m below meth c A C hr hlocks hname hA
  have C : Cx p s m _ c g A cX4_larder 6 wA_X4_larder RX4 := C
  rw [f_X4_larder] at hR
  refine g_iload_n C dX4_larder_0 rfl 1 rfl ?_
  refine g_iconst C dX4_larder_1 1 ic_1 2 rfl ?_
  refine g_icmp_lt C dX4_larder_2 hR 20 5 (by decide) rfl (fun c_2 hR => ?_) (fun c_2 hR => ?_)
  · refine g_bipush C dX4_larder_20 (-4) bp_m4 22 rfl ?_
    refine g_goto C dX4_larder_22 70 (by decide) ?_
    refine g_istore C dX4_larder_70 [_, _, _, _, _, _] (Nat.le_of_ble_eq_true rfl) rfl rfl 72 rfl ?_
    refine g_iload C dX4_larder_72 rfl 74 rfl ?_
    refine g_if_eqF C dX4_larder_74 (by decide) 86 77 (by decide) rfl ?_
    refine g_aload_n C dX4_larder_77 rfl 78 rfl ?_
    refine g_iload C dX4_larder_78 rfl 80 rfl ?_
    obtain ⟨v1, hv1, hR⟩ := opt_b hR
    refine g_callI C (rn_V C (k_X4_no l g b S (-4) N_ v1 hv1) (cwV 1 C.1.2.2.2.2 (gdV wl_111 wl_108 wl_109 wl_110 wl_5) rfl rfl rfl hd_X4_no ⟨Nat.le_of_ble_eq_true rfl, Nat.le_of_ble_eq_true rfl⟩) 0 rfl rfl _ rg_C rg_n rfl rfl (Nat.le_of_ble_eq_true rfl) ⟨Nat.zero_le _, Nat.zero_le _⟩ dX4_larder_80) (wM g b v1.2) (rg_put (wM_len.trans wM_len.symm)) (rg_len (wM_len.trans wM_len.symm)) 83 rfl ?_
    refine g_goto C dX4_larder_83 95 (by decide) ?_
    obtain rfl := Option.some.inj hR
    exact g_iret C hr hlocks hA (by first | (dsimp only; done) | rfl) (by first | (dsimp only; done) | rfl) dX4_larder_95
  · refine g_iload_n C dX4_larder_5 rfl 6 rfl ?_
    refine g_iconst C dX4_larder_6 1 ic_1 7 rfl ?_
    refine g_icmp_lt C dX4_larder_7 hR 20 10 (by decide) rfl (fun c_7 hR => ?_) (fun c_7 hR => ?_)
    · refine g_bipush C dX4_larder_20 (-4) bp_m4 22 rfl ?_
      refine g_goto C dX4_larder_22 70 (by decide) ?_
      refine g_istore C dX4_larder_70 [_, _, _, _, _, _] (Nat.le_of_ble_eq_true rfl) rfl rfl 72 rfl ?_
      refine g_iload C dX4_larder_72 rfl 74 rfl ?_
      refine g_if_eqF C dX4_larder_74 (by decide) 86 77 (by decide) rfl ?_
      refine g_aload_n C dX4_larder_77 rfl 78 rfl ?_
      refine g_iload C dX4_larder_78 rfl 80 rfl ?_
      obtain ⟨v2, hv2, hR⟩ := opt_b hR
      refine g_callI C (rn_V C (k_X4_no l g b S (-4) N_ v2 hv2) (cwV 1 C.1.2.2.2.2 (gdV wl_111 wl_108 wl_109 wl_110 wl_5) rfl rfl rfl hd_X4_no ⟨Nat.le_of_ble_eq_true rfl, Nat.le_of_ble_eq_true rfl⟩) 0 rfl rfl _ rg_C rg_n rfl rfl (Nat.le_of_ble_eq_true rfl) ⟨Nat.zero_le _, Nat.zero_le _⟩ dX4_larder_80) (wM g b v2.2) (rg_put (wM_len.trans wM_len.symm)) (rg_len (wM_len.trans wM_len.symm)) 83 rfl ?_
      refine g_goto C dX4_larder_83 95 (by decide) ?_
      obtain rfl := Option.some.inj hR
      exact g_iret C hr hlocks hA (by first | (dsimp only; done) | rfl) (by first | (dsimp only; done) | rfl) dX4_larder_95
    · refine g_iload_n C dX4_larder_10 rfl 11 rfl ?_
      refine g_iconst C dX4_larder_11 1 ic_1 12 rfl ?_
      refine g_icmp_lt C dX4_larder_12 hR 20 15 (by decide) rfl (fun c_12 hR => ?_) (fun c_12 hR => ?_)
      · refine g_bipush C dX4_larder_20 (-4) bp_m4 22 rfl ?_
        refine g_goto C dX4_larder_22 70 (by decide) ?_
        refine g_istore C dX4_larder_70 [_, _, _, _, _, _] (Nat.le_of_ble_eq_true rfl) rfl rfl 72 rfl ?_
        refine g_iload C dX4_larder_72 rfl 74 rfl ?_
        refine g_if_eqF C dX4_larder_74 (by decide) 86 77 (by decide) rfl ?_
        refine g_aload_n C dX4_larder_77 rfl 78 rfl ?_
        refine g_iload C dX4_larder_78 rfl 80 rfl ?_
        obtain ⟨v3, hv3, hR⟩ := opt_b hR
        refine g_callI C (rn_V C (k_X4_no l g b S (-4) N_ v3 hv3) (cwV 1 C.1.2.2.2.2 (gdV wl_111 wl_108 wl_109 wl_110 wl_5) rfl rfl rfl hd_X4_no ⟨Nat.le_of_ble_eq_true rfl, Nat.le_of_ble_eq_true rfl⟩) 0 rfl rfl _ rg_C rg_n rfl rfl (Nat.le_of_ble_eq_true rfl) ⟨Nat.zero_le _, Nat.zero_le _⟩ dX4_larder_80) (wM g b v3.2) (rg_put (wM_len.trans wM_len.symm)) (rg_len (wM_len.trans wM_len.symm)) 83 rfl ?_
        refine g_goto C dX4_larder_83 95 (by decide) ?_
        obtain rfl := Option.some.inj hR
        exact g_iret C hr hlocks hA (by first | (dsimp only; done) | rfl) (by first | (dsimp only; done) | rfl) dX4_larder_95
      · refine g_iload C dX4_larder_15 rfl 17 rfl ?_
        refine g_if_ge C dX4_larder_17 hR 25 20 (by decide) rfl (fun c_17 hR => ?_) (fun c_17 hR => ?_)
        · refine g_iload_n C dX4_larder_25 rfl 26 rfl ?_
          refine g_bipush C dX4_larder_26 30 bp_30 28 rfl ?_
          refine g_icmp_gt C dX4_larder_28 hR 50 31 (by decide) rfl (fun c_28 hR => ?_) (fun c_28 hR => ?_)
          · refine g_bipush C dX4_larder_50 (-6) bp_m6 52 rfl ?_
            refine g_goto C dX4_larder_52 70 (by decide) ?_
            refine g_istore C dX4_larder_70 [_, _, _, _, _, _] (Nat.le_of_ble_eq_true rfl) rfl rfl 72 rfl ?_
            refine g_iload C dX4_larder_72 rfl 74 rfl ?_
            refine g_if_eqF C dX4_larder_74 (by decide) 86 77 (by decide) rfl ?_
            refine g_aload_n C dX4_larder_77 rfl 78 rfl ?_
            refine g_iload C dX4_larder_78 rfl 80 rfl ?_
            obtain ⟨v4, hv4, hR⟩ := opt_b hR
            refine g_callI C (rn_V C (k_X4_no l g b S (-6) N_ v4 hv4) (cwV 1 C.1.2.2.2.2 (gdV wl_111 wl_108 wl_109 wl_110 wl_5) rfl rfl rfl hd_X4_no ⟨Nat.le_of_ble_eq_true rfl, Nat.le_of_ble_eq_true rfl⟩) 0 rfl rfl _ rg_C rg_n rfl rfl (Nat.le_of_ble_eq_true rfl) ⟨Nat.zero_le _, Nat.zero_le _⟩ dX4_larder_80) (wM g b v4.2) (rg_put (wM_len.trans wM_len.symm)) (rg_len (wM_len.trans wM_len.symm)) 83 rfl ?_
            refine g_goto C dX4_larder_83 95 (by decide) ?_
            obtain rfl := Option.some.inj hR
            exact g_iret C hr hlocks hA (by first | (dsimp only; done) | rfl) (by first | (dsimp only; done) | rfl) dX4_larder_95
          · refine g_iload_n C dX4_larder_31 rfl 32 rfl ?_
            refine g_bipush C dX4_larder_32 7 bp_7 34 rfl ?_
            refine g_icmp_gt C dX4_larder_34 hR 50 37 (by decide) rfl (fun c_34 hR => ?_) (fun c_34 hR => ?_)
            · refine g_bipush C dX4_larder_50 (-6) bp_m6 52 rfl ?_
              refine g_goto C dX4_larder_52 70 (by decide) ?_
              refine g_istore C dX4_larder_70 [_, _, _, _, _, _] (Nat.le_of_ble_eq_true rfl) rfl rfl 72 rfl ?_
              refine g_iload C dX4_larder_72 rfl 74 rfl ?_
              refine g_if_eqF C dX4_larder_74 (by decide) 86 77 (by decide) rfl ?_
              refine g_aload_n C dX4_larder_77 rfl 78 rfl ?_
              refine g_iload C dX4_larder_78 rfl 80 rfl ?_
              obtain ⟨v5, hv5, hR⟩ := opt_b hR
              refine g_callI C (rn_V C (k_X4_no l g b S (-6) N_ v5 hv5) (cwV 1 C.1.2.2.2.2 (gdV wl_111 wl_108 wl_109 wl_110 wl_5) rfl rfl rfl hd_X4_no ⟨Nat.le_of_ble_eq_true rfl, Nat.le_of_ble_eq_true rfl⟩) 0 rfl rfl _ rg_C rg_n rfl rfl (Nat.le_of_ble_eq_true rfl) ⟨Nat.zero_le _, Nat.zero_le _⟩ dX4_larder_80) (wM g b v5.2) (rg_put (wM_len.trans wM_len.symm)) (rg_len (wM_len.trans wM_len.symm)) 83 rfl ?_
              refine g_goto C dX4_larder_83 95 (by decide) ?_
              obtain rfl := Option.some.inj hR
              exact g_iret C hr hlocks hA (by first | (dsimp only; done) | rfl) (by first | (dsimp only; done) | rfl) dX4_larder_95
            · refine g_iload_n C dX4_larder_37 rfl 38 rfl ?_
              refine g_bipush C dX4_larder_38 9 bp_9 40 rfl ?_
              refine g_icmp_gt C dX4_larder_40 hR 50 43 (by decide) rfl (fun c_40 hR => ?_) (fun c_40 hR => ?_)
              · refine g_bipush C dX4_larder_50 (-6) bp_m6 52 rfl ?_
                refine g_goto C dX4_larder_52 70 (by decide) ?_
                refine g_istore C dX4_larder_70 [_, _, _, _, _, _] (Nat.le_of_ble_eq_true rfl) rfl rfl 72 rfl ?_
                refine g_iload C dX4_larder_72 rfl 74 rfl ?_
                refine g_if_eqF C dX4_larder_74 (by decide) 86 77 (by decide) rfl ?_
                refine g_aload_n C dX4_larder_77 rfl 78 rfl ?_
                refine g_iload C dX4_larder_78 rfl 80 rfl ?_
                obtain ⟨v6, hv6, hR⟩ := opt_b hR
                refine g_callI C (rn_V C (k_X4_no l g b S (-6) N_ v6 hv6) (cwV 1 C.1.2.2.2.2 (gdV wl_111 wl_108 wl_109 wl_110 wl_5) rfl rfl rfl hd_X4_no ⟨Nat.le_of_ble_eq_true rfl, Nat.le_of_ble_eq_true rfl⟩) 0 rfl rfl _ rg_C rg_n rfl rfl (Nat.le_of_ble_eq_true rfl) ⟨Nat.zero_le _, Nat.zero_le _⟩ dX4_larder_80) (wM g b v6.2) (rg_put (wM_len.trans wM_len.symm)) (rg_len (wM_len.trans wM_len.symm)) 83 rfl ?_
                refine g_goto C dX4_larder_83 95 (by decide) ?_
                obtain rfl := Option.some.inj hR
                exact g_iret C hr hlocks hA (by first | (dsimp only; done) | rfl) (by first | (dsimp only; done) | rfl) dX4_larder_95
              · refine g_iload C dX4_larder_43 rfl 45 rfl ?_
                refine g_bipush C dX4_larder_45 9 bp_9 47 rfl ?_
                refine g_icmp_le C dX4_larder_47 hR 55 50 (by decide) rfl (fun c_47 hR => ?_) (fun c_47 hR => ?_)
                · refine g_aload_n C dX4_larder_55 rfl 56 rfl ?_
                  refine g_get (v := .int (S.1 0 11)) C (hiC hiA_4) 0 rfl rfl 30 (by decide) (List.mem_cons_of_mem _ wl_812) rfl rfl dX4_larder_56 59 rfl ?_
                  refine g_bipush C dX4_larder_59 7 bp_7 61 rfl ?_
                  refine g_icmp_eq C dX4_larder_61 hR 69 64 (by decide) rfl (fun c_61 hR => ?_) (fun c_61 hR => ?_)
                  · refine g_iconst C dX4_larder_69 0 ic_0 70 rfl ?_
                    refine g_istore C dX4_larder_70 [_, _, _, _, _, _] (Nat.le_of_ble_eq_true rfl) rfl rfl 72 rfl ?_
                    refine g_iload C dX4_larder_72 rfl 74 rfl ?_
                    refine g_if_eqT C dX4_larder_74 (by decide) 86 (by decide) ?_
                    refine g_aload_n C dX4_larder_86 rfl 87 rfl ?_
                    refine g_iload_n C dX4_larder_87 rfl 88 rfl ?_
                    refine g_iload_n C dX4_larder_88 rfl 89 rfl ?_
                    refine g_iload_n C dX4_larder_89 rfl 90 rfl ?_
                    refine g_iload C dX4_larder_90 rfl 92 rfl ?_
                    obtain ⟨v7, hv7, hR⟩ := opt_b hR
                    refine g_callI C (rn_V C (k_X4_larderBy l g b S p0 p1 p2 p3 N_ v7 hv7) (cwV 4 C.1.2.2.2.2 (gdV wl_816 wl_813 wl_814 wl_815 wl_5) rfl rfl rfl hd_X4_larderBy ⟨Nat.le_of_ble_eq_true rfl, Nat.le_of_ble_eq_true rfl⟩) 0 rfl rfl _ rg_C rg_n rfl rfl (Nat.le_of_ble_eq_true rfl) ⟨Nat.zero_le _, Nat.zero_le _⟩ dX4_larder_92) (wM g b v7.2) (rg_put (wM_len.trans wM_len.symm)) (rg_len (wM_len.trans wM_len.symm)) 95 rfl ?_
                    obtain rfl := Option.some.inj hR
                    exact g_iret C hr hlocks hA (by first | (dsimp only; done) | rfl) (by first | (dsimp only; done) | rfl) dX4_larder_95
                  · refine g_bipush C dX4_larder_64 (-3) bp_m3 66 rfl ?_
                    refine g_goto C dX4_larder_66 70 (by decide) ?_
                    refine g_istore C dX4_larder_70 [_, _, _, _, _, _] (Nat.le_of_ble_eq_true rfl) rfl rfl 72 rfl ?_
                    refine g_iload C dX4_larder_72 rfl 74 rfl ?_
                    refine g_if_eqF C dX4_larder_74 (by decide) 86 77 (by decide) rfl ?_
                    refine g_aload_n C dX4_larder_77 rfl 78 rfl ?_
                    refine g_iload C dX4_larder_78 rfl 80 rfl ?_
                    obtain ⟨v8, hv8, hR⟩ := opt_b hR
                    refine g_callI C (rn_V C (k_X4_no l g b S (-3) N_ v8 hv8) (cwV 1 C.1.2.2.2.2 (gdV wl_111 wl_108 wl_109 wl_110 wl_5) rfl rfl rfl hd_X4_no ⟨Nat.le_of_ble_eq_true rfl, Nat.le_of_ble_eq_true rfl⟩) 0 rfl rfl _ rg_C rg_n rfl rfl (Nat.le_of_ble_eq_true rfl) ⟨Nat.zero_le _, Nat.zero_le _⟩ dX4_larder_80) (wM g b v8.2) (rg_put (wM_len.trans wM_len.symm)) (rg_len (wM_len.trans wM_len.symm)) 83 rfl ?_
                    refine g_goto C dX4_larder_83 95 (by decide) ?_
                    obtain rfl := Option.some.inj hR
                    exact g_iret C hr hlocks hA (by first | (dsimp only; done) | rfl) (by first | (dsimp only; done) | rfl) dX4_larder_95
                · refine g_bipush C dX4_larder_50 (-6) bp_m6 52 rfl ?_
                  refine g_goto C dX4_larder_52 70 (by decide) ?_
                  refine g_istore C dX4_larder_70 [_, _, _, _, _, _] (Nat.le_of_ble_eq_true rfl) rfl rfl 72 rfl ?_
                  refine g_iload C dX4_larder_72 rfl 74 rfl ?_
                  refine g_if_eqF C dX4_larder_74 (by decide) 86 77 (by decide) rfl ?_
                  refine g_aload_n C dX4_larder_77 rfl 78 rfl ?_
                  refine g_iload C dX4_larder_78 rfl 80 rfl ?_
                  obtain ⟨v9, hv9, hR⟩ := opt_b hR
                  refine g_callI C (rn_V C (k_X4_no l g b S (-6) N_ v9 hv9) (cwV 1 C.1.2.2.2.2 (gdV wl_111 wl_108 wl_109 wl_110 wl_5) rfl rfl rfl hd_X4_no ⟨Nat.le_of_ble_eq_true rfl, Nat.le_of_ble_eq_true rfl⟩) 0 rfl rfl _ rg_C rg_n rfl rfl (Nat.le_of_ble_eq_true rfl) ⟨Nat.zero_le _, Nat.zero_le _⟩ dX4_larder_80) (wM g b v9.2) (rg_put (wM_len.trans wM_len.symm)) (rg_len (wM_len.trans wM_len.symm)) 83 rfl ?_
                  refine g_goto C dX4_larder_83 95 (by decide) ?_
                  obtain rfl := Option.some.inj hR
                  exact g_iret C hr hlocks hA (by first | (dsimp only; done) | rfl) (by first | (dsimp only; done) | rfl) dX4_larder_95
        · refine g_bipush C dX4_larder_20 (-4) bp_m4 22 rfl ?_
          refine g_goto C dX4_larder_22 70 (by decide) ?_
          refine g_istore C dX4_larder_70 [_, _, _, _, _, _] (Nat.le_of_ble_eq_true rfl) rfl rfl 72 rfl ?_
          refine g_iload C dX4_larder_72 rfl 74 rfl ?_
          refine g_if_eqF C dX4_larder_74 (by decide) 86 77 (by decide) rfl ?_
          refine g_aload_n C dX4_larder_77 rfl 78 rfl ?_
          refine g_iload C dX4_larder_78 rfl 80 rfl ?_
          obtain ⟨v10, hv10, hR⟩ := opt_b hR
          refine g_callI C (rn_V C (k_X4_no l g b S (-4) N_ v10 hv10) (cwV 1 C.1.2.2.2.2 (gdV wl_111 wl_108 wl_109 wl_110 wl_5) rfl rfl rfl hd_X4_no ⟨Nat.le_of_ble_eq_true rfl, Nat.le_of_ble_eq_true rfl⟩) 0 rfl rfl _ rg_C rg_n rfl rfl (Nat.le_of_ble_eq_true rfl) ⟨Nat.zero_le _, Nat.zero_le _⟩ dX4_larder_80) (wM g b v10.2) (rg_put (wM_len.trans wM_len.symm)) (rg_len (wM_len.trans wM_len.symm)) 83 rfl ?_
          refine g_goto C dX4_larder_83 95 (by decide) ?_
          obtain rfl := Option.some.inj hR
          exact g_iret C hr hlocks hA (by first | (dsimp only; done) | rfl) (by first | (dsimp only; done) | rfl) dX4_larder_95
theorem hd_X4_buy : yX4_buy.cls = RX4 ∧ yX4_buy.cls ≠ "java/lang/invoke/MethodHandle" ∧ yX4_buy.cls ≠ "java/lang/invoke/VarHandle" ∧ (parseMethodDescriptor yX4_buy.desc).map (fun d => d.parameters.length) = some 2 := by decide +kernel
def f_X4_buy_L75 (x1 : Int32) (x2 : Int32) (N_ : Nat) : Nat → Int32 → Int32 → Int32 → ((Nat → Nat → Int32) × (Nat → Nat → Int64)) → Option (Int32 × Int32 × Int32 × ((Nat → Nat → Int32) × (Nat → Nat → Int64)))
  | 0, _, _, _, _ => none
  | n_ + 1, x4, x5, x6, S =>
    if 98 ≤ x6 then
      some (x4, x5, x6, S)
    else
      if (b2i (f_X4_isIn (x6 - x6 / 10 * 10) 1 7)) = 0 then
        f_X4_buy_L75 x1 x2 N_ n_ x4 x5 (x6 + 1) S
      else
        (f_X4_larderBy S x1 (x6 - x6 / 10 * 10) (x6 / 10) x2 N_).bind fun v8 =>
        if v8.1 < x5 then
          (f_X4_larderBy v8.2 x1 (x6 - x6 / 10 * 10) (x6 / 10) x2 N_).bind fun v9 =>
          f_X4_buy_L75 x1 x2 N_ n_ x6 v9.1 (x6 + 1) v9.2
        else
          f_X4_buy_L75 x1 x2 N_ n_ x4 x5 (x6 + 1) v8.2
set_option maxRecDepth 100000 in
set_option maxHeartbeats 4000000 in
theorem k_X4_buy_L75 (l : Launch) (g : gE) {p : Program} {e : Env} {s : State} {m : MethodId} {args : Array Value} {below : List Frame} {meth : Method} {c : Code} {Q : State → Prop} {A : Nat → Prop} {b : Nat → Nat}  (C : Cx p s m args c g A cX4_buy 7 wA_X4_buy RX4) (N_ : Nat) (x1 : Int32) (x2 : Int32) (x3 : Int32) : ∀ (n_ : Nat) (x4 : Int32) (x5 : Int32) (x6 : Int32) (S : (Nat → Nat → Int32) × (Nat → Nat → Int64)) (rv_ : Int32 × Int32 × Int32 × ((Nat → Nat → Int32) × (Nat → Nat → Int64))), f_X4_buy_L75 x1 x2 N_ n_ x4 x5 x6 S = some rv_ → (Gm p l e (headSpec wA_X4_buy ({ frames := 1, cells := 0, slots := 0, locals := 29 } : Room)).room s m args below meth c Q g A 7 0 0 (wM g b rv_.2.2.2) [some (.ref (b 0)), some (.int x1), some (.int x2), some (.int x3), some (.int rv_.1), some (.int rv_.2.1), some (.int rv_.2.2.1)] [] 148) → Gm p l e (headSpec wA_X4_buy ({ frames := 1, cells := 0, slots := 0, locals := 29 } : Room)).room s m args below meth c Q g A 7 0 0 (wM g b S) [some (.ref (b 0)), some (.int x1), some (.int x2), some (.int x3), some (.int x4), some (.int x5), some (.int x6)] [] 75 := by
  intro n_
  induction n_ with
  | zero =>
    intro x4 x5 x6 S rv_ hR
    simp [f_X4_buy_L75] at hR
  | succ n_ ih =>
    intro x4 x5 x6 S rv_ hR hk
    rw [f_X4_buy_L75] at hR
    refine g_iload C dX4_buy_75 rfl 77 rfl ?_
    refine g_bipush C dX4_buy_77 98 bp_98 79 rfl ?_
    refine g_icmp_ge C dX4_buy_79 hR 148 82 (by decide) rfl (fun c_79 hR => ?_) (fun c_79 hR => ?_)
    · obtain rfl := Option.some.inj hR
      refine g_lv [some (.ref (b 0)), some (.int x1), some (.int x2), some (.int x3), some (.int x4), some (.int x5), some (.int x6)] (lvLe.sm (lvLe.sm (lvLe.sm (lvLe.sm (lvLe.sm (lvLe.sm (lvLe.sm lvLe.nil))))))) ?_
      exact hk
    · refine g_iload C dX4_buy_82 rfl 84 rfl ?_
      refine g_bipush C dX4_buy_84 10 bp_10 86 rfl ?_
      refine g_irem C dX4_buy_86 (by decide) 87 rfl ?_
      refine g_iconst C dX4_buy_87 1 ic_1 88 rfl ?_
      refine g_bipush C dX4_buy_88 7 bp_7 90 rfl ?_
      refine g_callIR C (rn_S C (k_X4_isIn l g (x6 - x6 / 10 * 10) 1 7) (va_cwS 3 C.1.2.2.2.2 (gdS wl_232 wl_230 wl_231 wl_5) rfl rfl rfl hd_X4_isIn.2 ⟨Nat.le_of_ble_eq_true rfl, Nat.le_of_ble_eq_true rfl⟩) [] rfl rfl rfl rfl (Nat.le_of_ble_eq_true rfl) ⟨Nat.zero_le _, Nat.zero_le _⟩ dX4_buy_90) 93 rfl ?_
      refine g_if_eq C dX4_buy_93 hR 142 96 (by decide) rfl (fun c_93 hR => ?_) (fun c_93 hR => ?_)
      · refine g_iinc C dX4_buy_142 rfl 1 ic_1 [_, _, _, _, _, _, _] (Nat.le_of_ble_eq_true rfl) rfl rfl 145 rfl ?_
        refine g_goto C dX4_buy_145 75 (by decide) ?_
        refine g_lv [some (.ref (b 0)), some (.int x1), some (.int x2), some (.int x3), some (.int x4), some (.int x5), some (.int (x6 + 1))] (lvLe.sm (lvLe.sm (lvLe.sm (lvLe.sm (lvLe.sm (lvLe.sm (lvLe.sm lvLe.nil))))))) ?_
        exact ih _ _ _ _ rv_ hR hk
      · refine g_aload_n C dX4_buy_96 rfl 97 rfl ?_
        refine g_iload_n C dX4_buy_97 rfl 98 rfl ?_
        refine g_iload C dX4_buy_98 rfl 100 rfl ?_
        refine g_bipush C dX4_buy_100 10 bp_10 102 rfl ?_
        refine g_irem C dX4_buy_102 (by decide) 103 rfl ?_
        refine g_iload C dX4_buy_103 rfl 105 rfl ?_
        refine g_bipush C dX4_buy_105 10 bp_10 107 rfl ?_
        refine g_idiv C dX4_buy_107 (by decide) 108 rfl ?_
        refine g_iload_n C dX4_buy_108 rfl 109 rfl ?_
        obtain ⟨v8, hv8, hR⟩ := opt_b hR
        refine g_callI C (rn_V C (k_X4_larderBy l g b S x1 (x6 - x6 / 10 * 10) (x6 / 10) x2 N_ v8 hv8) (cwV 4 C.1.2.2.2.2 (gdV wl_816 wl_813 wl_814 wl_815 wl_5) rfl rfl rfl hd_X4_larderBy ⟨Nat.le_of_ble_eq_true rfl, Nat.le_of_ble_eq_true rfl⟩) 0 rfl rfl _ rg_C rg_n rfl rfl (Nat.le_of_ble_eq_true rfl) ⟨Nat.zero_le _, Nat.zero_le _⟩ dX4_buy_109) (wM g b v8.2) (rg_put (wM_len.trans wM_len.symm)) (rg_len (wM_len.trans wM_len.symm)) 112 rfl ?_
        refine g_iload C dX4_buy_112 rfl 114 rfl ?_
        refine g_icmp_lt C dX4_buy_114 hR 120 117 (by decide) rfl (fun c_114 hR => ?_) (fun c_114 hR => ?_)
        · refine g_iload C dX4_buy_120 rfl 122 rfl ?_
          refine g_istore C dX4_buy_122 [_, _, _, _, _, _, _] (Nat.le_of_ble_eq_true rfl) rfl rfl 124 rfl ?_
          refine g_aload_n C dX4_buy_124 rfl 125 rfl ?_
          refine g_iload_n C dX4_buy_125 rfl 126 rfl ?_
          refine g_iload C dX4_buy_126 rfl 128 rfl ?_
          refine g_bipush C dX4_buy_128 10 bp_10 130 rfl ?_
          refine g_irem C dX4_buy_130 (by decide) 131 rfl ?_
          refine g_iload C dX4_buy_131 rfl 133 rfl ?_
          refine g_bipush C dX4_buy_133 10 bp_10 135 rfl ?_
          refine g_idiv C dX4_buy_135 (by decide) 136 rfl ?_
          refine g_iload_n C dX4_buy_136 rfl 137 rfl ?_
          obtain ⟨v9, hv9, hR⟩ := opt_b hR
          refine g_callI C (rn_V C (k_X4_larderBy l g b v8.2 x1 (x6 - x6 / 10 * 10) (x6 / 10) x2 N_ v9 hv9) (cwV 4 C.1.2.2.2.2 (gdV wl_816 wl_813 wl_814 wl_815 wl_5) rfl rfl rfl hd_X4_larderBy ⟨Nat.le_of_ble_eq_true rfl, Nat.le_of_ble_eq_true rfl⟩) 0 rfl rfl _ rg_C rg_n rfl rfl (Nat.le_of_ble_eq_true rfl) ⟨Nat.zero_le _, Nat.zero_le _⟩ dX4_buy_137) (wM g b v9.2) (rg_put (wM_len.trans wM_len.symm)) (rg_len (wM_len.trans wM_len.symm)) 140 rfl ?_
          refine g_istore C dX4_buy_140 [_, _, _, _, _, _, _] (Nat.le_of_ble_eq_true rfl) rfl rfl 142 rfl ?_
          refine g_iinc C dX4_buy_142 rfl 1 ic_1 [_, _, _, _, _, _, _] (Nat.le_of_ble_eq_true rfl) rfl rfl 145 rfl ?_
          refine g_goto C dX4_buy_145 75 (by decide) ?_
          refine g_lv [some (.ref (b 0)), some (.int x1), some (.int x2), some (.int x3), some (.int x6), some (.int v9.1), some (.int (x6 + 1))] (lvLe.sm (lvLe.sm (lvLe.sm (lvLe.sm (lvLe.sm (lvLe.sm (lvLe.sm lvLe.nil))))))) ?_
          exact ih _ _ _ _ rv_ hR hk
        · refine g_goto C dX4_buy_117 142 (by decide) ?_
          refine g_iinc C dX4_buy_142 rfl 1 ic_1 [_, _, _, _, _, _, _] (Nat.le_of_ble_eq_true rfl) rfl rfl 145 rfl ?_
          refine g_goto C dX4_buy_145 75 (by decide) ?_
          refine g_lv [some (.ref (b 0)), some (.int x1), some (.int x2), some (.int x3), some (.int x4), some (.int x5), some (.int (x6 + 1))] (lvLe.sm (lvLe.sm (lvLe.sm (lvLe.sm (lvLe.sm (lvLe.sm (lvLe.sm lvLe.nil))))))) ?_
          exact ih _ _ _ _ rv_ hR hk
def f_X4_buy (S : (Nat → Nat → Int32) × (Nat → Nat → Int64)) (p0 : Int32) (p1 : Int32) (N_ : Nat) : Option (Int32 × ((Nat → Nat → Int32) × (Nat → Nat → Int64))) :=
  if p0 < 1 then
    (f_X4_no S (-4) N_).bind fun v1 =>
    some (v1.1, v1.2)
  else
    if 0 ≤ p1 then
      if 30 < p0 then
        (f_X4_no S (-6) N_).bind fun v2 =>
        some (v2.1, v2.2)
      else
        if p1 ≤ 9 then
          if (S.1 0 11) = 7 then
            (f_X4_larderBy S p0 1 1 p1 N_).bind fun v3 =>
            (f_X4_buy_L75 p0 p1 N_ N_ 11 v3.1 12 v3.2).bind fun v10 =>
            some (v10.1, v10.2.2.2)
          else
            (f_X4_no S (-3) N_).bind fun v11 =>
            some (v11.1, v11.2)
        else
          (f_X4_no S (-6) N_).bind fun v12 =>
          some (v12.1, v12.2)
    else
      (f_X4_no S (-4) N_).bind fun v13 =>
      some (v13.1, v13.2)
set_option maxRecDepth 100000 in
set_option maxHeartbeats 4000000 in
theorem k_X4_buy (l : Launch) (g : gE) (b : Nat → Nat) (S : (Nat → Nat → Int32) × (Nat → Nat → Int64)) (p0 : Int32) (p1 : Int32) (N_ : Nat) (R_ : Int32 × ((Nat → Nat → Int32) × (Nat → Nat → Int64))) (hR : f_X4_buy S p0 p1 N_ = some R_) : FnI l g yX4_buy wA_X4_buy { frames := 1, cells := 0, slots := 0, locals := 29 } [.ref (b 0), .int p0, .int p1] (wM g b S) R_.1 (wM g b R_.2) := by
  refine fEntry (As := [.ref (b 0), .int p0, .int p1]) (maxL := 7) (ret := (some .int)) (by decide) rfl [some (.ref (b 0)), some (.int p0), some (.int p1), none, none, none, none] (Nat.le_of_ble_eq_true rfl) (lvInB.to (lvInB.sm (lvInB.sm (lvInB.sm (lvInB.nn (lvInB.nn (lvInB.nn (lvInB.nn lvInB.nil)))))))) ?_
  intro p e s m below meth c A C hr hlocks hname hA
  have C : Cx p s m _ c g A cX4_buy 7 wA_X4_buy RX4 := C
  rw [f_X4_buy] at hR
  refine g_iload_n C dX4_buy_0 rfl 1 rfl ?_
  refine g_iconst C dX4_buy_1 1 ic_1 2 rfl ?_
  refine g_icmp_lt C dX4_buy_2 hR 9 5 (by decide) rfl (fun c_2 hR => ?_) (fun c_2 hR => ?_)
  · refine g_bipush C dX4_buy_9 (-4) bp_m4 11 rfl ?_
    refine g_goto C dX4_buy_11 46 (by decide) ?_
    refine g_istore_n C dX4_buy_46 [_, _, _, _, _, _, _] (Nat.le_of_ble_eq_true rfl) rfl rfl 47 rfl ?_
    refine g_iload_n C dX4_buy_47 rfl 48 rfl ?_
    refine g_if_eqF C dX4_buy_48 (by decide) 57 51 (by decide) rfl ?_
    refine g_aload_n C dX4_buy_51 rfl 52 rfl ?_
    refine g_iload_n C dX4_buy_52 rfl 53 rfl ?_
    obtain ⟨v1, hv1, hR⟩ := opt_b hR
    refine g_callI C (rn_V C (k_X4_no l g b S (-4) N_ v1 hv1) (cwV 1 C.1.2.2.2.2 (gdV wl_111 wl_108 wl_109 wl_110 wl_5) rfl rfl rfl hd_X4_no ⟨Nat.le_of_ble_eq_true rfl, Nat.le_of_ble_eq_true rfl⟩) 0 rfl rfl _ rg_C rg_n rfl rfl (Nat.le_of_ble_eq_true rfl) ⟨Nat.zero_le _, Nat.zero_le _⟩ dX4_buy_53) (wM g b v1.2) (rg_put (wM_len.trans wM_len.symm)) (rg_len (wM_len.trans wM_len.symm)) 56 rfl ?_
    obtain rfl := Option.some.inj hR
    exact g_iret C hr hlocks hA (by first | (dsimp only; done) | rfl) (by first | (dsimp only; done) | rfl) dX4_buy_56
  · refine g_iload_n C dX4_buy_5 rfl 6 rfl ?_
    refine g_if_ge C dX4_buy_6 hR 14 9 (by decide) rfl (fun c_6 hR => ?_) (fun c_6 hR => ?_)
    · refine g_iload_n C dX4_buy_14 rfl 15 rfl ?_
      refine g_bipush C dX4_buy_15 30 bp_30 17 rfl ?_
      refine g_icmp_gt C dX4_buy_17 hR 26 20 (by decide) rfl (fun c_17 hR => ?_) (fun c_17 hR => ?_)
      · refine g_bipush C dX4_buy_26 (-6) bp_m6 28 rfl ?_
        refine g_goto C dX4_buy_28 46 (by decide) ?_
        refine g_istore_n C dX4_buy_46 [_, _, _, _, _, _, _] (Nat.le_of_ble_eq_true rfl) rfl rfl 47 rfl ?_
        refine g_iload_n C dX4_buy_47 rfl 48 rfl ?_
        refine g_if_eqF C dX4_buy_48 (by decide) 57 51 (by decide) rfl ?_
        refine g_aload_n C dX4_buy_51 rfl 52 rfl ?_
        refine g_iload_n C dX4_buy_52 rfl 53 rfl ?_
        obtain ⟨v2, hv2, hR⟩ := opt_b hR
        refine g_callI C (rn_V C (k_X4_no l g b S (-6) N_ v2 hv2) (cwV 1 C.1.2.2.2.2 (gdV wl_111 wl_108 wl_109 wl_110 wl_5) rfl rfl rfl hd_X4_no ⟨Nat.le_of_ble_eq_true rfl, Nat.le_of_ble_eq_true rfl⟩) 0 rfl rfl _ rg_C rg_n rfl rfl (Nat.le_of_ble_eq_true rfl) ⟨Nat.zero_le _, Nat.zero_le _⟩ dX4_buy_53) (wM g b v2.2) (rg_put (wM_len.trans wM_len.symm)) (rg_len (wM_len.trans wM_len.symm)) 56 rfl ?_
        obtain rfl := Option.some.inj hR
        exact g_iret C hr hlocks hA (by first | (dsimp only; done) | rfl) (by first | (dsimp only; done) | rfl) dX4_buy_56
      · refine g_iload_n C dX4_buy_20 rfl 21 rfl ?_
        refine g_bipush C dX4_buy_21 9 bp_9 23 rfl ?_
        refine g_icmp_le C dX4_buy_23 hR 31 26 (by decide) rfl (fun c_23 hR => ?_) (fun c_23 hR => ?_)
        · refine g_aload_n C dX4_buy_31 rfl 32 rfl ?_
          refine g_get (v := .int (S.1 0 11)) C (hiC hiA_4) 0 rfl rfl 30 (by decide) (List.mem_cons_of_mem _ wl_812) rfl rfl dX4_buy_32 35 rfl ?_
          refine g_bipush C dX4_buy_35 7 bp_7 37 rfl ?_
          refine g_icmp_eq C dX4_buy_37 hR 45 40 (by decide) rfl (fun c_37 hR => ?_) (fun c_37 hR => ?_)
          · refine g_iconst C dX4_buy_45 0 ic_0 46 rfl ?_
            refine g_istore_n C dX4_buy_46 [_, _, _, _, _, _, _] (Nat.le_of_ble_eq_true rfl) rfl rfl 47 rfl ?_
            refine g_iload_n C dX4_buy_47 rfl 48 rfl ?_
            refine g_if_eqT C dX4_buy_48 (by decide) 57 (by decide) ?_
            refine g_bipush C dX4_buy_57 11 bp_11 59 rfl ?_
            refine g_istore C dX4_buy_59 [_, _, _, _, _, _, _] (Nat.le_of_ble_eq_true rfl) rfl rfl 61 rfl ?_
            refine g_aload_n C dX4_buy_61 rfl 62 rfl ?_
            refine g_iload_n C dX4_buy_62 rfl 63 rfl ?_
            refine g_iconst C dX4_buy_63 1 ic_1 64 rfl ?_
            refine g_iconst C dX4_buy_64 1 ic_1 65 rfl ?_
            refine g_iload_n C dX4_buy_65 rfl 66 rfl ?_
            obtain ⟨v3, hv3, hR⟩ := opt_b hR
            refine g_callI C (rn_V C (k_X4_larderBy l g b S p0 1 1 p1 N_ v3 hv3) (cwV 4 C.1.2.2.2.2 (gdV wl_816 wl_813 wl_814 wl_815 wl_5) rfl rfl rfl hd_X4_larderBy ⟨Nat.le_of_ble_eq_true rfl, Nat.le_of_ble_eq_true rfl⟩) 0 rfl rfl _ rg_C rg_n rfl rfl (Nat.le_of_ble_eq_true rfl) ⟨Nat.zero_le _, Nat.zero_le _⟩ dX4_buy_66) (wM g b v3.2) (rg_put (wM_len.trans wM_len.symm)) (rg_len (wM_len.trans wM_len.symm)) 69 rfl ?_
            refine g_istore C dX4_buy_69 [_, _, _, _, _, _, _] (Nat.le_of_ble_eq_true rfl) rfl rfl 71 rfl ?_
            refine g_bipush C dX4_buy_71 12 bp_12 73 rfl ?_
            refine g_istore C dX4_buy_73 [_, _, _, _, _, _, _] (Nat.le_of_ble_eq_true rfl) rfl rfl 75 rfl ?_
            refine g_lv [some (.ref (b 0)), some (.int p0), some (.int p1), some (.int 0), some (.int 11), some (.int v3.1), some (.int 12)] (lvLe.sm (lvLe.sm (lvLe.sm (lvLe.sm (lvLe.sm (lvLe.sm (lvLe.sm lvLe.nil))))))) ?_
            obtain ⟨v10, hv10, hR⟩ := opt_b hR
            refine k_X4_buy_L75 l g C N_ p0 p1 0 N_ 11 v3.1 12 v3.2 _ hv10 ?_
            refine g_iload C dX4_buy_148 rfl 150 rfl ?_
            obtain rfl := Option.some.inj hR
            exact g_iret C hr hlocks hA (by first | (dsimp only; done) | rfl) (by first | (dsimp only; done) | rfl) dX4_buy_150
          · refine g_bipush C dX4_buy_40 (-3) bp_m3 42 rfl ?_
            refine g_goto C dX4_buy_42 46 (by decide) ?_
            refine g_istore_n C dX4_buy_46 [_, _, _, _, _, _, _] (Nat.le_of_ble_eq_true rfl) rfl rfl 47 rfl ?_
            refine g_iload_n C dX4_buy_47 rfl 48 rfl ?_
            refine g_if_eqF C dX4_buy_48 (by decide) 57 51 (by decide) rfl ?_
            refine g_aload_n C dX4_buy_51 rfl 52 rfl ?_
            refine g_iload_n C dX4_buy_52 rfl 53 rfl ?_
            obtain ⟨v11, hv11, hR⟩ := opt_b hR
            refine g_callI C (rn_V C (k_X4_no l g b S (-3) N_ v11 hv11) (cwV 1 C.1.2.2.2.2 (gdV wl_111 wl_108 wl_109 wl_110 wl_5) rfl rfl rfl hd_X4_no ⟨Nat.le_of_ble_eq_true rfl, Nat.le_of_ble_eq_true rfl⟩) 0 rfl rfl _ rg_C rg_n rfl rfl (Nat.le_of_ble_eq_true rfl) ⟨Nat.zero_le _, Nat.zero_le _⟩ dX4_buy_53) (wM g b v11.2) (rg_put (wM_len.trans wM_len.symm)) (rg_len (wM_len.trans wM_len.symm)) 56 rfl ?_
            obtain rfl := Option.some.inj hR
            exact g_iret C hr hlocks hA (by first | (dsimp only; done) | rfl) (by first | (dsimp only; done) | rfl) dX4_buy_56
        · refine g_bipush C dX4_buy_26 (-6) bp_m6 28 rfl ?_
          refine g_goto C dX4_buy_28 46 (by decide) ?_
          refine g_istore_n C dX4_buy_46 [_, _, _, _, _, _, _] (Nat.le_of_ble_eq_true rfl) rfl rfl 47 rfl ?_
          refine g_iload_n C dX4_buy_47 rfl 48 rfl ?_
          refine g_if_eqF C dX4_buy_48 (by decide) 57 51 (by decide) rfl ?_
          refine g_aload_n C dX4_buy_51 rfl 52 rfl ?_
          refine g_iload_n C dX4_buy_52 rfl 53 rfl ?_
          obtain ⟨v12, hv12, hR⟩ := opt_b hR
          refine g_callI C (rn_V C (k_X4_no l g b S (-6) N_ v12 hv12) (cwV 1 C.1.2.2.2.2 (gdV wl_111 wl_108 wl_109 wl_110 wl_5) rfl rfl rfl hd_X4_no ⟨Nat.le_of_ble_eq_true rfl, Nat.le_of_ble_eq_true rfl⟩) 0 rfl rfl _ rg_C rg_n rfl rfl (Nat.le_of_ble_eq_true rfl) ⟨Nat.zero_le _, Nat.zero_le _⟩ dX4_buy_53) (wM g b v12.2) (rg_put (wM_len.trans wM_len.symm)) (rg_len (wM_len.trans wM_len.symm)) 56 rfl ?_
          obtain rfl := Option.some.inj hR
          exact g_iret C hr hlocks hA (by first | (dsimp only; done) | rfl) (by first | (dsimp only; done) | rfl) dX4_buy_56
    · refine g_bipush C dX4_buy_9 (-4) bp_m4 11 rfl ?_
      refine g_goto C dX4_buy_11 46 (by decide) ?_
      refine g_istore_n C dX4_buy_46 [_, _, _, _, _, _, _] (Nat.le_of_ble_eq_true rfl) rfl rfl 47 rfl ?_
      refine g_iload_n C dX4_buy_47 rfl 48 rfl ?_
      refine g_if_eqF C dX4_buy_48 (by decide) 57 51 (by decide) rfl ?_
      refine g_aload_n C dX4_buy_51 rfl 52 rfl ?_
      refine g_iload_n C dX4_buy_52 rfl 53 rfl ?_
      obtain ⟨v13, hv13, hR⟩ := opt_b hR
      refine g_callI C (rn_V C (k_X4_no l g b S (-4) N_ v13 hv13) (cwV 1 C.1.2.2.2.2 (gdV wl_111 wl_108 wl_109 wl_110 wl_5) rfl rfl rfl hd_X4_no ⟨Nat.le_of_ble_eq_true rfl, Nat.le_of_ble_eq_true rfl⟩) 0 rfl rfl _ rg_C rg_n rfl rfl (Nat.le_of_ble_eq_true rfl) ⟨Nat.zero_le _, Nat.zero_le _⟩ dX4_buy_53) (wM g b v13.2) (rg_put (wM_len.trans wM_len.symm)) (rg_len (wM_len.trans wM_len.symm)) 56 rfl ?_
      obtain rfl := Option.some.inj hR
      exact g_iret C hr hlocks hA (by first | (dsimp only; done) | rfl) (by first | (dsimp only; done) | rfl) dX4_buy_56
theorem hd_X4_useBy : yX4_useBy.cls = RX4 ∧ yX4_useBy.cls ≠ "java/lang/invoke/MethodHandle" ∧ yX4_useBy.cls ≠ "java/lang/invoke/VarHandle" ∧ (parseMethodDescriptor yX4_useBy.desc).map (fun d => d.parameters.length) = some 3 := by decide +kernel
def f_X4_useBy (S : (Nat → Nat → Int32) × (Nat → Nat → Int64)) (p0 : Int32) (p1 : Int32) (p2 : Int32) (N_ : Nat) : Option (Int32 × ((Nat → Nat → Int32) × (Nat → Nat → Int64))) :=
  if p1 = 0 then
    if p0 < 0 ∨ 5 ≤ (Int32.toNatClampNeg p0) then none else
    if p0 < 0 ∨ 5 ≤ (Int32.toNatClampNeg p0) then none else
    if ((S.1 5) (Int32.toNatClampNeg p0)) ≤ (10 * ((S.1 3) (Int32.toNatClampNeg p0))) then
      some (0, S)
    else
      some (4, S)
  else
    if p1 = 1 then
      some (0, S)
    else
      if p1 = 2 then
        (f_X4_truly S p0 N_).bind fun v1 =>
        if v1 ≤ 2 then
          some (0, S)
        else
          some (4, S)
      else
        if p1 = 3 then
          (f_X4_truly S p0 N_).bind fun v2 =>
          if (f_X4_harmOf 0 v2) = 0 then
            some (0, S)
          else
            (f_X4_truly S p0 N_).bind fun v3 =>
            if (f_X4_harmOf 1 v3) = 0 then
              some (1, S)
            else
              (f_X4_truly S p0 N_).bind fun v4 =>
              if (f_X4_harmOf 2 v4) = 0 then
                some (2, S)
              else
                some (3, S)
        else
          if p0 < 0 ∨ 5 ≤ (Int32.toNatClampNeg p0) then none else
          (f_X4_laysWeights_1 S p0 ((S.1 5) (Int32.toNatClampNeg p0)) N_).bind fun v5 =>
          (f_X4_bestUse_1 v5 p2 N_).bind fun v6 =>
          some (v6, v5)
set_option maxRecDepth 100000 in
set_option maxHeartbeats 4000000 in
theorem k_X4_useBy (l : Launch) (g : gE) (b : Nat → Nat) (S : (Nat → Nat → Int32) × (Nat → Nat → Int64)) (p0 : Int32) (p1 : Int32) (p2 : Int32) (N_ : Nat) (R_ : Int32 × ((Nat → Nat → Int32) × (Nat → Nat → Int64))) (hR : f_X4_useBy S p0 p1 p2 N_ = some R_) : FnI l g yX4_useBy wA_X4_useBy { frames := 4, cells := 0, slots := 0, locals := 95 } [.ref (b 0), .int p0, .int p1, .int p2] (wM g b S) R_.1 (wM g b R_.2) := by
  refine fEntry (As := [.ref (b 0), .int p0, .int p1, .int p2]) (maxL := 4) (ret := (some .int)) (by decide) rfl [some (.ref (b 0)), some (.int p0), some (.int p1), some (.int p2)] (Nat.le_of_ble_eq_true rfl) (lvInB.to (lvInB.sm (lvInB.sm (lvInB.sm (lvInB.sm lvInB.nil))))) ?_
  intro p e s m below meth c A C hr hlocks hname hA
  have C : Cx p s m _ c g A cX4_useBy 4 wA_X4_useBy RX4 := C
  rw [f_X4_useBy] at hR
  refine g_iload_n C dX4_useBy_0 rfl 1 rfl ?_
  rcases Decidable.em (p1 = 0) with c_1_0 | c_1_0
  · have hR := (if_pos c_1_0).symm.trans hR
    refine g_tableIn C dX4_useBy_1 0 c_1_0 (31) 32 (by decide) ?_
    refine g_aload_n C dX4_useBy_32 rfl 33 rfl ?_
    refine g_get (v := .ref (b 5)) C (hiC hiA_4) 0 rfl rfl 4 (by decide) (List.mem_cons_of_mem _ wl_70) rfl rfl dX4_useBy_33 36 rfl ?_
    refine g_iload_n C dX4_useBy_36 rfl 37 rfl ?_
    obtain ⟨h_37, hR⟩ := opt_n hR
    refine g_iald (f := (S.1 5)) C 5 rfl h_37 dX4_useBy_37 38 rfl ?_
    refine g_bipush C dX4_useBy_38 10 bp_10 40 rfl ?_
    refine g_aload_n C dX4_useBy_40 rfl 41 rfl ?_
    refine g_get (v := .ref (b 3)) C (hiC hiA_4) 0 rfl rfl 2 (by decide) (List.mem_cons_of_mem _ wl_68) rfl rfl dX4_useBy_41 44 rfl ?_
    refine g_iload_n C dX4_useBy_44 rfl 45 rfl ?_
    obtain ⟨h_45, hR⟩ := opt_n hR
    refine g_iald (f := (S.1 3)) C 3 rfl h_45 dX4_useBy_45 46 rfl ?_
    refine g_imul C dX4_useBy_46 47 rfl ?_
    refine g_icmp_le C dX4_useBy_47 hR 54 50 (by decide) rfl (fun c_47 hR => ?_) (fun c_47 hR => ?_)
    · refine g_iconst C dX4_useBy_54 0 ic_0 55 rfl ?_
      obtain rfl := Option.some.inj hR
      exact g_iret C hr hlocks hA (by first | (dsimp only; done) | rfl) (by first | (dsimp only; done) | rfl) dX4_useBy_55
    · refine g_iconst C dX4_useBy_50 4 ic_4 51 rfl ?_
      refine g_goto C dX4_useBy_51 55 (by decide) ?_
      obtain rfl := Option.some.inj hR
      exact g_iret C hr hlocks hA (by first | (dsimp only; done) | rfl) (by first | (dsimp only; done) | rfl) dX4_useBy_55
  · have hR := (if_neg c_1_0).symm.trans hR
    rcases Decidable.em (p1 = 1) with c_1_1 | c_1_1
    · have hR := (if_pos c_1_1).symm.trans hR
      refine g_tableIn C dX4_useBy_1 1 c_1_1 (55) 56 (by decide) ?_
      refine g_iconst C dX4_useBy_56 0 ic_0 57 rfl ?_
      obtain rfl := Option.some.inj hR
      exact g_iret C hr hlocks hA (by first | (dsimp only; done) | rfl) (by first | (dsimp only; done) | rfl) dX4_useBy_57
    · have hR := (if_neg c_1_1).symm.trans hR
      rcases Decidable.em (p1 = 2) with c_1_2 | c_1_2
      · have hR := (if_pos c_1_2).symm.trans hR
        refine g_tableIn C dX4_useBy_1 2 c_1_2 (57) 58 (by decide) ?_
        refine g_aload_n C dX4_useBy_58 rfl 59 rfl ?_
        refine g_iload_n C dX4_useBy_59 rfl 60 rfl ?_
        obtain ⟨v1, hv1, hR⟩ := opt_b hR
        refine g_callIR C (rn_V C (k_X4_truly l g b S p0 N_ v1 hv1) (cwV 1 C.1.2.2.2.2 (gdV wl_311 wl_308 wl_309 wl_310 wl_5) rfl rfl rfl hd_X4_truly ⟨Nat.le_of_ble_eq_true rfl, Nat.le_of_ble_eq_true rfl⟩) 0 rfl rfl _ rg_C rg_n rfl rfl (Nat.le_of_ble_eq_true rfl) ⟨Nat.zero_le _, Nat.zero_le _⟩ dX4_useBy_60) 63 rfl ?_
        refine g_iconst C dX4_useBy_63 2 ic_2 64 rfl ?_
        refine g_icmp_le C dX4_useBy_64 hR 71 67 (by decide) rfl (fun c_64 hR => ?_) (fun c_64 hR => ?_)
        · refine g_iconst C dX4_useBy_71 0 ic_0 72 rfl ?_
          obtain rfl := Option.some.inj hR
          exact g_iret C hr hlocks hA (by first | (dsimp only; done) | rfl) (by first | (dsimp only; done) | rfl) dX4_useBy_72
        · refine g_iconst C dX4_useBy_67 4 ic_4 68 rfl ?_
          refine g_goto C dX4_useBy_68 72 (by decide) ?_
          obtain rfl := Option.some.inj hR
          exact g_iret C hr hlocks hA (by first | (dsimp only; done) | rfl) (by first | (dsimp only; done) | rfl) dX4_useBy_72
      · have hR := (if_neg c_1_2).symm.trans hR
        rcases Decidable.em (p1 = 3) with c_1_3 | c_1_3
        · have hR := (if_pos c_1_3).symm.trans hR
          refine g_tableIn C dX4_useBy_1 3 c_1_3 (72) 73 (by decide) ?_
          refine g_iconst C dX4_useBy_73 0 ic_0 74 rfl ?_
          refine g_aload_n C dX4_useBy_74 rfl 75 rfl ?_
          refine g_iload_n C dX4_useBy_75 rfl 76 rfl ?_
          obtain ⟨v2, hv2, hR⟩ := opt_b hR
          refine g_callIR C (rn_V C (k_X4_truly l g b S p0 N_ v2 hv2) (cwV 1 C.1.2.2.2.2 (gdV wl_311 wl_308 wl_309 wl_310 wl_5) rfl rfl rfl hd_X4_truly ⟨Nat.le_of_ble_eq_true rfl, Nat.le_of_ble_eq_true rfl⟩) 0 rfl rfl _ rg_C rg_n rfl rfl (Nat.le_of_ble_eq_true rfl) ⟨Nat.zero_le _, Nat.zero_le _⟩ dX4_useBy_76) 79 rfl ?_
          refine g_callIR C (rn_S C (k_X4_harmOf l g 0 v2) (va_cwS 2 C.1.2.2.2.2 (gdS wl_539 wl_537 wl_538 wl_5) rfl rfl rfl hd_X4_harmOf.2 ⟨Nat.le_of_ble_eq_true rfl, Nat.le_of_ble_eq_true rfl⟩) [] rfl rfl rfl rfl (Nat.le_of_ble_eq_true rfl) ⟨Nat.zero_le _, Nat.zero_le _⟩ dX4_useBy_79) 82 rfl ?_
          refine g_if_ne C dX4_useBy_82 hR 89 85 (by decide) rfl (fun c_82 hR => ?_) (fun c_82 hR => ?_)
          · refine g_iconst C dX4_useBy_89 1 ic_1 90 rfl ?_
            refine g_aload_n C dX4_useBy_90 rfl 91 rfl ?_
            refine g_iload_n C dX4_useBy_91 rfl 92 rfl ?_
            obtain ⟨v3, hv3, hR⟩ := opt_b hR
            refine g_callIR C (rn_V C (k_X4_truly l g b S p0 N_ v3 hv3) (cwV 1 C.1.2.2.2.2 (gdV wl_311 wl_308 wl_309 wl_310 wl_5) rfl rfl rfl hd_X4_truly ⟨Nat.le_of_ble_eq_true rfl, Nat.le_of_ble_eq_true rfl⟩) 0 rfl rfl _ rg_C rg_n rfl rfl (Nat.le_of_ble_eq_true rfl) ⟨Nat.zero_le _, Nat.zero_le _⟩ dX4_useBy_92) 95 rfl ?_
            refine g_callIR C (rn_S C (k_X4_harmOf l g 1 v3) (va_cwS 2 C.1.2.2.2.2 (gdS wl_539 wl_537 wl_538 wl_5) rfl rfl rfl hd_X4_harmOf.2 ⟨Nat.le_of_ble_eq_true rfl, Nat.le_of_ble_eq_true rfl⟩) [] rfl rfl rfl rfl (Nat.le_of_ble_eq_true rfl) ⟨Nat.zero_le _, Nat.zero_le _⟩ dX4_useBy_95) 98 rfl ?_
            refine g_if_ne C dX4_useBy_98 hR 105 101 (by decide) rfl (fun c_98 hR => ?_) (fun c_98 hR => ?_)
            · refine g_iconst C dX4_useBy_105 2 ic_2 106 rfl ?_
              refine g_aload_n C dX4_useBy_106 rfl 107 rfl ?_
              refine g_iload_n C dX4_useBy_107 rfl 108 rfl ?_
              obtain ⟨v4, hv4, hR⟩ := opt_b hR
              refine g_callIR C (rn_V C (k_X4_truly l g b S p0 N_ v4 hv4) (cwV 1 C.1.2.2.2.2 (gdV wl_311 wl_308 wl_309 wl_310 wl_5) rfl rfl rfl hd_X4_truly ⟨Nat.le_of_ble_eq_true rfl, Nat.le_of_ble_eq_true rfl⟩) 0 rfl rfl _ rg_C rg_n rfl rfl (Nat.le_of_ble_eq_true rfl) ⟨Nat.zero_le _, Nat.zero_le _⟩ dX4_useBy_108) 111 rfl ?_
              refine g_callIR C (rn_S C (k_X4_harmOf l g 2 v4) (va_cwS 2 C.1.2.2.2.2 (gdS wl_539 wl_537 wl_538 wl_5) rfl rfl rfl hd_X4_harmOf.2 ⟨Nat.le_of_ble_eq_true rfl, Nat.le_of_ble_eq_true rfl⟩) [] rfl rfl rfl rfl (Nat.le_of_ble_eq_true rfl) ⟨Nat.zero_le _, Nat.zero_le _⟩ dX4_useBy_111) 114 rfl ?_
              refine g_if_ne C dX4_useBy_114 hR 121 117 (by decide) rfl (fun c_114 hR => ?_) (fun c_114 hR => ?_)
              · refine g_iconst C dX4_useBy_121 3 ic_3 122 rfl ?_
                obtain rfl := Option.some.inj hR
                exact g_iret C hr hlocks hA (by first | (dsimp only; done) | rfl) (by first | (dsimp only; done) | rfl) dX4_useBy_122
              · refine g_iconst C dX4_useBy_117 2 ic_2 118 rfl ?_
                refine g_goto C dX4_useBy_118 122 (by decide) ?_
                obtain rfl := Option.some.inj hR
                exact g_iret C hr hlocks hA (by first | (dsimp only; done) | rfl) (by first | (dsimp only; done) | rfl) dX4_useBy_122
            · refine g_iconst C dX4_useBy_101 1 ic_1 102 rfl ?_
              refine g_goto C dX4_useBy_102 122 (by decide) ?_
              obtain rfl := Option.some.inj hR
              exact g_iret C hr hlocks hA (by first | (dsimp only; done) | rfl) (by first | (dsimp only; done) | rfl) dX4_useBy_122
          · refine g_iconst C dX4_useBy_85 0 ic_0 86 rfl ?_
            refine g_goto C dX4_useBy_86 122 (by decide) ?_
            obtain rfl := Option.some.inj hR
            exact g_iret C hr hlocks hA (by first | (dsimp only; done) | rfl) (by first | (dsimp only; done) | rfl) dX4_useBy_122
        · have hR := (if_neg c_1_3).symm.trans hR
          refine g_tableD C dX4_useBy_1 [0, 1, 2, 3] (ne_c c_1_0 (ne_c c_1_1 (ne_c c_1_2 (ne_c c_1_3 ne_n)))) (by decide +kernel) (by decide +kernel) 123 (by decide) ?_
          refine g_aload_n C dX4_useBy_123 rfl 124 rfl ?_
          refine g_aload_n C dX4_useBy_124 rfl 125 rfl ?_
          refine g_get (v := .ref (b 18)) C (hiC hiA_4) 0 rfl rfl 26 (by decide) (List.mem_cons_of_mem _ wl_81) rfl rfl dX4_useBy_125 128 rfl ?_
          refine g_iload_n C dX4_useBy_128 rfl 129 rfl ?_
          refine g_aload_n C dX4_useBy_129 rfl 130 rfl ?_
          refine g_get (v := .ref (b 5)) C (hiC hiA_4) 0 rfl rfl 4 (by decide) (List.mem_cons_of_mem _ wl_70) rfl rfl dX4_useBy_130 133 rfl ?_
          refine g_iload_n C dX4_useBy_133 rfl 134 rfl ?_
          obtain ⟨h_134, hR⟩ := opt_n hR
          refine g_iald (f := (S.1 5)) C 5 rfl h_134 dX4_useBy_134 135 rfl ?_
          obtain ⟨v5, hv5, hR⟩ := opt_b hR
          refine g_callV C (rn_V C (k_X4_laysWeights_1 l g b S p0 ((S.1 5) (Int32.toNatClampNeg p0)) N_ v5 hv5) (cwV 3 C.1.2.2.2.2 (gdV wl_780 wl_777 wl_778 wl_779 wl_5) rfl rfl rfl hd_X4_laysWeights ⟨Nat.le_of_ble_eq_true rfl, Nat.le_of_ble_eq_true rfl⟩) 0 rfl rfl _ rg_C rg_n rfl rfl (Nat.le_of_ble_eq_true rfl) ⟨Nat.zero_le _, Nat.zero_le _⟩ dX4_useBy_135) (wM g b v5) (rg_put (wM_len.trans wM_len.symm)) (rg_len (wM_len.trans wM_len.symm)) 138 rfl ?_
          refine g_aload_n C dX4_useBy_138 rfl 139 rfl ?_
          refine g_aload_n C dX4_useBy_139 rfl 140 rfl ?_
          refine g_get (v := .ref (b 18)) C (hiC hiA_4) 0 rfl rfl 26 (by decide) (List.mem_cons_of_mem _ wl_81) rfl rfl dX4_useBy_140 143 rfl ?_
          refine g_iload_n C dX4_useBy_143 rfl 144 rfl ?_
          obtain ⟨v6, hv6, hR⟩ := opt_b hR
          refine g_callIR C (rn_V C (k_X4_bestUse_1 l g b v5 p2 N_ v6 hv6) (cwV 2 C.1.2.2.2.2 (gdV wl_562 wl_559 wl_560 wl_561 wl_5) rfl rfl rfl hd_X4_bestUse ⟨Nat.le_of_ble_eq_true rfl, Nat.le_of_ble_eq_true rfl⟩) 0 rfl rfl _ rg_C rg_n rfl rfl (Nat.le_of_ble_eq_true rfl) ⟨Nat.zero_le _, Nat.zero_le _⟩ dX4_useBy_144) 147 rfl ?_
          obtain rfl := Option.some.inj hR
          exact g_iret C hr hlocks hA (by first | (dsimp only; done) | rfl) (by first | (dsimp only; done) | rfl) dX4_useBy_147
theorem hd_X4_netByRule : yX4_netByRule.cls = RX4 ∧ yX4_netByRule.cls ≠ "java/lang/invoke/MethodHandle" ∧ yX4_netByRule.cls ≠ "java/lang/invoke/VarHandle" ∧ (parseMethodDescriptor yX4_netByRule.desc).map (fun d => d.parameters.length) = some 3 := by decide +kernel
def f_X4_netByRule (S : (Nat → Nat → Int32) × (Nat → Nat → Int64)) (p0 : Int32) (p1 : Int32) (p2 : Int32) (N_ : Nat) : Option (Int32 × ((Nat → Nat → Int32) × (Nat → Nat → Int64))) :=
  (f_X4_useBy S p0 p1 p2 N_).bind fun v1 =>
  (f_X4_truly v1.2 p0 N_).bind fun v2 =>
  if p0 < 0 ∨ 5 ≤ (Int32.toNatClampNeg p0) then none else
  some (((f_X4_netOf v1.2 v1.1 p2 v2) * ((v1.2.1 4) (Int32.toNatClampNeg p0))), v1.2)
set_option maxRecDepth 100000 in
set_option maxHeartbeats 4000000 in
theorem k_X4_netByRule (l : Launch) (g : gE) (b : Nat → Nat) (S : (Nat → Nat → Int32) × (Nat → Nat → Int64)) (p0 : Int32) (p1 : Int32) (p2 : Int32) (N_ : Nat) (R_ : Int32 × ((Nat → Nat → Int32) × (Nat → Nat → Int64))) (hR : f_X4_netByRule S p0 p1 p2 N_ = some R_) : FnI l g yX4_netByRule wA_X4_netByRule { frames := 5, cells := 0, slots := 0, locals := 118 } [.ref (b 0), .int p0, .int p1, .int p2] (wM g b S) R_.1 (wM g b R_.2) := by
  refine fEntry (As := [.ref (b 0), .int p0, .int p1, .int p2]) (maxL := 4) (ret := (some .int)) (by decide) rfl [some (.ref (b 0)), some (.int p0), some (.int p1), some (.int p2)] (Nat.le_of_ble_eq_true rfl) (lvInB.to (lvInB.sm (lvInB.sm (lvInB.sm (lvInB.sm lvInB.nil))))) ?_
  intro p e s m below meth c A C hr hlocks hname hA
  have C : Cx p s m _ c g A cX4_netByRule 4 wA_X4_netByRule RX4 := C
  rw [f_X4_netByRule] at hR
  refine g_aload_n C dX4_netByRule_0 rfl 1 rfl ?_
  refine g_aload_n C dX4_netByRule_1 rfl 2 rfl ?_
  refine g_iload_n C dX4_netByRule_2 rfl 3 rfl ?_
  refine g_iload_n C dX4_netByRule_3 rfl 4 rfl ?_
  refine g_iload_n C dX4_netByRule_4 rfl 5 rfl ?_
  obtain ⟨v1, hv1, hR⟩ := opt_b hR
  refine g_callI C (rn_V C (k_X4_useBy l g b S p0 p1 p2 N_ v1 hv1) (cwV 3 C.1.2.2.2.2 (gdV wl_857 wl_854 wl_855 wl_856 wl_5) rfl rfl rfl hd_X4_useBy ⟨Nat.le_of_ble_eq_true rfl, Nat.le_of_ble_eq_true rfl⟩) 0 rfl rfl _ rg_C rg_n rfl rfl (Nat.le_of_ble_eq_true rfl) ⟨Nat.zero_le _, Nat.zero_le _⟩ dX4_netByRule_5) (wM g b v1.2) (rg_put (wM_len.trans wM_len.symm)) (rg_len (wM_len.trans wM_len.symm)) 8 rfl ?_
  refine g_iload_n C dX4_netByRule_8 rfl 9 rfl ?_
  refine g_aload_n C dX4_netByRule_9 rfl 10 rfl ?_
  refine g_iload_n C dX4_netByRule_10 rfl 11 rfl ?_
  obtain ⟨v2, hv2, hR⟩ := opt_b hR
  refine g_callIR C (rn_V C (k_X4_truly l g b v1.2 p0 N_ v2 hv2) (cwV 1 C.1.2.2.2.2 (gdV wl_311 wl_308 wl_309 wl_310 wl_5) rfl rfl rfl hd_X4_truly ⟨Nat.le_of_ble_eq_true rfl, Nat.le_of_ble_eq_true rfl⟩) 0 rfl rfl _ rg_C rg_n rfl rfl (Nat.le_of_ble_eq_true rfl) ⟨Nat.zero_le _, Nat.zero_le _⟩ dX4_netByRule_11) 14 rfl ?_
  refine g_callIR C (rn_V C (k_X4_netOf l g b v1.2 v1.1 p2 v2) (cwV 3 C.1.2.2.2.2 (gdV wl_532 wl_529 wl_530 wl_531 wl_5) rfl rfl rfl hd_X4_netOf ⟨Nat.le_of_ble_eq_true rfl, Nat.le_of_ble_eq_true rfl⟩) 0 rfl rfl _ rg_C rg_n rfl rfl (Nat.le_of_ble_eq_true rfl) ⟨Nat.zero_le _, Nat.zero_le _⟩ dX4_netByRule_14) 17 rfl ?_
  refine g_aload_n C dX4_netByRule_17 rfl 18 rfl ?_
  refine g_get (v := .ref (b 4)) C (hiC hiA_4) 0 rfl rfl 3 (by decide) (List.mem_cons_of_mem _ wl_69) rfl rfl dX4_netByRule_18 21 rfl ?_
  refine g_iload_n C dX4_netByRule_21 rfl 22 rfl ?_
  obtain ⟨h_22, hR⟩ := opt_n hR
  refine g_iald (f := (v1.2.1 4)) C 4 rfl h_22 dX4_netByRule_22 23 rfl ?_
  refine g_imul C dX4_netByRule_23 24 rfl ?_
  obtain rfl := Option.some.inj hR
  exact g_iret C hr hlocks hA (by first | (dsimp only; done) | rfl) (by first | (dsimp only; done) | rfl) dX4_netByRule_24
theorem hd_X4_rule : yX4_rule.cls = RX4 ∧ yX4_rule.cls ≠ "java/lang/invoke/MethodHandle" ∧ yX4_rule.cls ≠ "java/lang/invoke/VarHandle" ∧ (parseMethodDescriptor yX4_rule.desc).map (fun d => d.parameters.length) = some 4 := by decide +kernel
def f_X4_rule (S : (Nat → Nat → Int32) × (Nat → Nat → Int64)) (p0 : Int32) (p1 : Int32) (p2 : Int32) (p3 : Int32) (N_ : Nat) : Option (Int32 × ((Nat → Nat → Int32) × (Nat → Nat → Int64))) :=
  if (b2i (f_X4_isJug S p0)) = 0 then
    (f_X4_lower S (-1) N_).bind fun v1 =>
    some (v1.1, v1.2)
  else
    if (b2i (f_X4_isWhom p2)) = 0 then
      (f_X4_lower S (-1) N_).bind fun v6 =>
      some (v6.1, v6.2)
    else
      if (b2i (f_X4_isIn p1 0 4)) = 0 then
        (f_X4_lower S (-2) N_).bind fun v2 =>
        some (v2.1, v2.2)
      else
        if (b2i (f_X4_isIn p3 0 1)) = 0 then
          (f_X4_lower S (-2) N_).bind fun v5 =>
          some (v5.1, v5.2)
        else
          if p3 = 0 then
            (f_X4_useBy S p0 p1 p2 N_).bind fun v4 =>
            some (v4.1, v4.2)
          else
            (f_X4_netByRule S p0 p1 p2 N_).bind fun v3 =>
            some (v3.1, v3.2)
set_option maxRecDepth 100000 in
set_option maxHeartbeats 4000000 in
theorem k_X4_rule (l : Launch) (g : gE) (b : Nat → Nat) (S : (Nat → Nat → Int32) × (Nat → Nat → Int64)) (p0 : Int32) (p1 : Int32) (p2 : Int32) (p3 : Int32) (N_ : Nat) (R_ : Int32 × ((Nat → Nat → Int32) × (Nat → Nat → Int64))) (hR : f_X4_rule S p0 p1 p2 p3 N_ = some R_) : FnI l g yX4_rule wA_X4_rule { frames := 6, cells := 0, slots := 0, locals := 141 } [.ref (b 0), .int p0, .int p1, .int p2, .int p3] (wM g b S) R_.1 (wM g b R_.2) := by
  refine fEntry (As := [.ref (b 0), .int p0, .int p1, .int p2, .int p3]) (maxL := 6) (ret := (some .int)) (by decide) rfl [some (.ref (b 0)), some (.int p0), some (.int p1), some (.int p2), some (.int p3), none] (Nat.le_of_ble_eq_true rfl) (lvInB.to (lvInB.sm (lvInB.sm (lvInB.sm (lvInB.sm (lvInB.sm (lvInB.nn lvInB.nil))))))) ?_
  intro p e s m below meth c A C hr hlocks hname hA
  have C : Cx p s m _ c g A cX4_rule 6 wA_X4_rule RX4 := C
  rw [f_X4_rule] at hR
  refine g_aload_n C dX4_rule_0 rfl 1 rfl ?_
  refine g_iload_n C dX4_rule_1 rfl 2 rfl ?_
  refine g_callIR C (rn_V C (k_X4_isJug l g b S p0) (cwV 1 C.1.2.2.2.2 (gdV wl_276 wl_273 wl_274 wl_275 wl_5) rfl rfl rfl hd_X4_isJug ⟨Nat.le_of_ble_eq_true rfl, Nat.le_of_ble_eq_true rfl⟩) 0 rfl rfl _ rg_C rg_n rfl rfl (Nat.le_of_ble_eq_true rfl) ⟨Nat.zero_le _, Nat.zero_le _⟩ dX4_rule_2) 5 rfl ?_
  refine g_if_eq C dX4_rule_5 hR 15 8 (by decide) rfl (fun c_5 hR => ?_) (fun c_5 hR => ?_)
  · refine g_iconst C dX4_rule_15 (-1) ic_m1 16 rfl ?_
    refine g_goto C dX4_rule_16 44 (by decide) ?_
    refine g_istore C dX4_rule_44 [_, _, _, _, _, _] (Nat.le_of_ble_eq_true rfl) rfl rfl 46 rfl ?_
    refine g_iload C dX4_rule_46 rfl 48 rfl ?_
    refine g_if_eqF C dX4_rule_48 (by decide) 58 51 (by decide) rfl ?_
    refine g_aload_n C dX4_rule_51 rfl 52 rfl ?_
    refine g_iload C dX4_rule_52 rfl 54 rfl ?_
    obtain ⟨v1, hv1, hR⟩ := opt_b hR
    refine g_callI C (rn_V C (k_X4_lower l g b S (-1) N_ v1 hv1) (cwV 1 C.1.2.2.2.2 (gdV wl_852 wl_849 wl_850 wl_851 wl_5) rfl rfl rfl hd_X4_lower ⟨Nat.le_of_ble_eq_true rfl, Nat.le_of_ble_eq_true rfl⟩) 0 rfl rfl _ rg_C rg_n rfl rfl (Nat.le_of_ble_eq_true rfl) ⟨Nat.zero_le _, Nat.zero_le _⟩ dX4_rule_54) (wM g b v1.2) (rg_put (wM_len.trans wM_len.symm)) (rg_len (wM_len.trans wM_len.symm)) 57 rfl ?_
    obtain rfl := Option.some.inj hR
    exact g_iret C hr hlocks hA (by first | (dsimp only; done) | rfl) (by first | (dsimp only; done) | rfl) dX4_rule_57
  · refine g_iload_n C dX4_rule_8 rfl 9 rfl ?_
    refine g_callIR C (rn_S C (k_X4_isWhom l g p2) (va_cwS 1 C.1.2.2.2.2 (gdS wl_524 wl_522 wl_523 wl_5) rfl rfl rfl hd_X4_isWhom.2 ⟨Nat.le_of_ble_eq_true rfl, Nat.le_of_ble_eq_true rfl⟩) [] rfl rfl rfl rfl (Nat.le_of_ble_eq_true rfl) ⟨Nat.zero_le _, Nat.zero_le _⟩ dX4_rule_9) 12 rfl ?_
    refine g_if_ne C dX4_rule_12 hR 19 15 (by decide) rfl (fun c_12 hR => ?_) (fun c_12 hR => ?_)
    · refine g_iload_n C dX4_rule_19 rfl 20 rfl ?_
      refine g_iconst C dX4_rule_20 0 ic_0 21 rfl ?_
      refine g_iconst C dX4_rule_21 4 ic_4 22 rfl ?_
      refine g_callIR C (rn_S C (k_X4_isIn l g p1 0 4) (va_cwS 3 C.1.2.2.2.2 (gdS wl_232 wl_230 wl_231 wl_5) rfl rfl rfl hd_X4_isIn.2 ⟨Nat.le_of_ble_eq_true rfl, Nat.le_of_ble_eq_true rfl⟩) [] rfl rfl rfl rfl (Nat.le_of_ble_eq_true rfl) ⟨Nat.zero_le _, Nat.zero_le _⟩ dX4_rule_22) 25 rfl ?_
      refine g_if_eq C dX4_rule_25 hR 38 28 (by decide) rfl (fun c_25 hR => ?_) (fun c_25 hR => ?_)
      · refine g_bipush C dX4_rule_38 (-2) bp_m2 40 rfl ?_
        refine g_goto C dX4_rule_40 44 (by decide) ?_
        refine g_istore C dX4_rule_44 [_, _, _, _, _, _] (Nat.le_of_ble_eq_true rfl) rfl rfl 46 rfl ?_
        refine g_iload C dX4_rule_46 rfl 48 rfl ?_
        refine g_if_eqF C dX4_rule_48 (by decide) 58 51 (by decide) rfl ?_
        refine g_aload_n C dX4_rule_51 rfl 52 rfl ?_
        refine g_iload C dX4_rule_52 rfl 54 rfl ?_
        obtain ⟨v2, hv2, hR⟩ := opt_b hR
        refine g_callI C (rn_V C (k_X4_lower l g b S (-2) N_ v2 hv2) (cwV 1 C.1.2.2.2.2 (gdV wl_852 wl_849 wl_850 wl_851 wl_5) rfl rfl rfl hd_X4_lower ⟨Nat.le_of_ble_eq_true rfl, Nat.le_of_ble_eq_true rfl⟩) 0 rfl rfl _ rg_C rg_n rfl rfl (Nat.le_of_ble_eq_true rfl) ⟨Nat.zero_le _, Nat.zero_le _⟩ dX4_rule_54) (wM g b v2.2) (rg_put (wM_len.trans wM_len.symm)) (rg_len (wM_len.trans wM_len.symm)) 57 rfl ?_
        obtain rfl := Option.some.inj hR
        exact g_iret C hr hlocks hA (by first | (dsimp only; done) | rfl) (by first | (dsimp only; done) | rfl) dX4_rule_57
      · refine g_iload C dX4_rule_28 rfl 30 rfl ?_
        refine g_iconst C dX4_rule_30 0 ic_0 31 rfl ?_
        refine g_iconst C dX4_rule_31 1 ic_1 32 rfl ?_
        refine g_callIR C (rn_S C (k_X4_isIn l g p3 0 1) (va_cwS 3 C.1.2.2.2.2 (gdS wl_232 wl_230 wl_231 wl_5) rfl rfl rfl hd_X4_isIn.2 ⟨Nat.le_of_ble_eq_true rfl, Nat.le_of_ble_eq_true rfl⟩) [] rfl rfl rfl rfl (Nat.le_of_ble_eq_true rfl) ⟨Nat.zero_le _, Nat.zero_le _⟩ dX4_rule_32) 35 rfl ?_
        refine g_if_ne C dX4_rule_35 hR 43 38 (by decide) rfl (fun c_35 hR => ?_) (fun c_35 hR => ?_)
        · refine g_iconst C dX4_rule_43 0 ic_0 44 rfl ?_
          refine g_istore C dX4_rule_44 [_, _, _, _, _, _] (Nat.le_of_ble_eq_true rfl) rfl rfl 46 rfl ?_
          refine g_iload C dX4_rule_46 rfl 48 rfl ?_
          refine g_if_eqT C dX4_rule_48 (by decide) 58 (by decide) ?_
          refine g_iload C dX4_rule_58 rfl 60 rfl ?_
          refine g_if_ne C dX4_rule_60 hR 73 63 (by decide) rfl (fun c_60 hR => ?_) (fun c_60 hR => ?_)
          · refine g_aload_n C dX4_rule_73 rfl 74 rfl ?_
            refine g_iload_n C dX4_rule_74 rfl 75 rfl ?_
            refine g_iload_n C dX4_rule_75 rfl 76 rfl ?_
            refine g_iload_n C dX4_rule_76 rfl 77 rfl ?_
            obtain ⟨v3, hv3, hR⟩ := opt_b hR
            refine g_callI C (rn_V C (k_X4_netByRule l g b S p0 p1 p2 N_ v3 hv3) (cwV 3 C.1.2.2.2.2 (gdV wl_861 wl_858 wl_859 wl_860 wl_5) rfl rfl rfl hd_X4_netByRule ⟨Nat.le_of_ble_eq_true rfl, Nat.le_of_ble_eq_true rfl⟩) 0 rfl rfl _ rg_C rg_n rfl rfl (Nat.le_of_ble_eq_true rfl) ⟨Nat.zero_le _, Nat.zero_le _⟩ dX4_rule_77) (wM g b v3.2) (rg_put (wM_len.trans wM_len.symm)) (rg_len (wM_len.trans wM_len.symm)) 80 rfl ?_
            obtain rfl := Option.some.inj hR
            exact g_iret C hr hlocks hA (by first | (dsimp only; done) | rfl) (by first | (dsimp only; done) | rfl) dX4_rule_80
          · refine g_aload_n C dX4_rule_63 rfl 64 rfl ?_
            refine g_iload_n C dX4_rule_64 rfl 65 rfl ?_
            refine g_iload_n C dX4_rule_65 rfl 66 rfl ?_
            refine g_iload_n C dX4_rule_66 rfl 67 rfl ?_
            obtain ⟨v4, hv4, hR⟩ := opt_b hR
            refine g_callI C (rn_V C (k_X4_useBy l g b S p0 p1 p2 N_ v4 hv4) (cwV 3 C.1.2.2.2.2 (gdV wl_857 wl_854 wl_855 wl_856 wl_5) rfl rfl rfl hd_X4_useBy ⟨Nat.le_of_ble_eq_true rfl, Nat.le_of_ble_eq_true rfl⟩) 0 rfl rfl _ rg_C rg_n rfl rfl (Nat.le_of_ble_eq_true rfl) ⟨Nat.zero_le _, Nat.zero_le _⟩ dX4_rule_67) (wM g b v4.2) (rg_put (wM_len.trans wM_len.symm)) (rg_len (wM_len.trans wM_len.symm)) 70 rfl ?_
            refine g_goto C dX4_rule_70 80 (by decide) ?_
            obtain rfl := Option.some.inj hR
            exact g_iret C hr hlocks hA (by first | (dsimp only; done) | rfl) (by first | (dsimp only; done) | rfl) dX4_rule_80
        · refine g_bipush C dX4_rule_38 (-2) bp_m2 40 rfl ?_
          refine g_goto C dX4_rule_40 44 (by decide) ?_
          refine g_istore C dX4_rule_44 [_, _, _, _, _, _] (Nat.le_of_ble_eq_true rfl) rfl rfl 46 rfl ?_
          refine g_iload C dX4_rule_46 rfl 48 rfl ?_
          refine g_if_eqF C dX4_rule_48 (by decide) 58 51 (by decide) rfl ?_
          refine g_aload_n C dX4_rule_51 rfl 52 rfl ?_
          refine g_iload C dX4_rule_52 rfl 54 rfl ?_
          obtain ⟨v5, hv5, hR⟩ := opt_b hR
          refine g_callI C (rn_V C (k_X4_lower l g b S (-2) N_ v5 hv5) (cwV 1 C.1.2.2.2.2 (gdV wl_852 wl_849 wl_850 wl_851 wl_5) rfl rfl rfl hd_X4_lower ⟨Nat.le_of_ble_eq_true rfl, Nat.le_of_ble_eq_true rfl⟩) 0 rfl rfl _ rg_C rg_n rfl rfl (Nat.le_of_ble_eq_true rfl) ⟨Nat.zero_le _, Nat.zero_le _⟩ dX4_rule_54) (wM g b v5.2) (rg_put (wM_len.trans wM_len.symm)) (rg_len (wM_len.trans wM_len.symm)) 57 rfl ?_
          obtain rfl := Option.some.inj hR
          exact g_iret C hr hlocks hA (by first | (dsimp only; done) | rfl) (by first | (dsimp only; done) | rfl) dX4_rule_57
    · refine g_iconst C dX4_rule_15 (-1) ic_m1 16 rfl ?_
      refine g_goto C dX4_rule_16 44 (by decide) ?_
      refine g_istore C dX4_rule_44 [_, _, _, _, _, _] (Nat.le_of_ble_eq_true rfl) rfl rfl 46 rfl ?_
      refine g_iload C dX4_rule_46 rfl 48 rfl ?_
      refine g_if_eqF C dX4_rule_48 (by decide) 58 51 (by decide) rfl ?_
      refine g_aload_n C dX4_rule_51 rfl 52 rfl ?_
      refine g_iload C dX4_rule_52 rfl 54 rfl ?_
      obtain ⟨v6, hv6, hR⟩ := opt_b hR
      refine g_callI C (rn_V C (k_X4_lower l g b S (-1) N_ v6 hv6) (cwV 1 C.1.2.2.2.2 (gdV wl_852 wl_849 wl_850 wl_851 wl_5) rfl rfl rfl hd_X4_lower ⟨Nat.le_of_ble_eq_true rfl, Nat.le_of_ble_eq_true rfl⟩) 0 rfl rfl _ rg_C rg_n rfl rfl (Nat.le_of_ble_eq_true rfl) ⟨Nat.zero_le _, Nat.zero_le _⟩ dX4_rule_54) (wM g b v6.2) (rg_put (wM_len.trans wM_len.symm)) (rg_len (wM_len.trans wM_len.symm)) 57 rfl ?_
      obtain rfl := Option.some.inj hR
      exact g_iret C hr hlocks hA (by first | (dsimp only; done) | rfl) (by first | (dsimp only; done) | rfl) dX4_rule_57
theorem hd_X4_netOfAll : yX4_netOfAll.cls = RX4 ∧ yX4_netOfAll.cls ≠ "java/lang/invoke/MethodHandle" ∧ yX4_netOfAll.cls ≠ "java/lang/invoke/VarHandle" ∧ (parseMethodDescriptor yX4_netOfAll.desc).map (fun d => d.parameters.length) = some 2 := by decide +kernel
def f_X4_netOfAll_L5 (x1 : Int32) (x2 : Int32) (N_ : Nat) : Nat → Int32 → Int32 → ((Nat → Nat → Int32) × (Nat → Nat → Int64)) → Option (Int32 × Int32 × ((Nat → Nat → Int32) × (Nat → Nat → Int64)))
  | 0, _, _, _ => none
  | n_ + 1, x3, x4, S =>
    if (S.1 0 0) ≤ x4 then
      some (x3, x4, S)
    else
      (f_X4_netByRule S x4 x1 x2 N_).bind fun v3 =>
      f_X4_netOfAll_L5 x1 x2 N_ n_ (x3 + v3.1) (x4 + 1) v3.2
set_option maxRecDepth 100000 in
set_option maxHeartbeats 4000000 in
theorem k_X4_netOfAll_L5 (l : Launch) (g : gE) {p : Program} {e : Env} {s : State} {m : MethodId} {args : Array Value} {below : List Frame} {meth : Method} {c : Code} {Q : State → Prop} {A : Nat → Prop} {b : Nat → Nat}  (C : Cx p s m args c g A cX4_netOfAll 5 wA_X4_netOfAll RX4) (N_ : Nat) (x1 : Int32) (x2 : Int32) : ∀ (n_ : Nat) (x3 : Int32) (x4 : Int32) (S : (Nat → Nat → Int32) × (Nat → Nat → Int64)) (rv_ : Int32 × Int32 × ((Nat → Nat → Int32) × (Nat → Nat → Int64))), f_X4_netOfAll_L5 x1 x2 N_ n_ x3 x4 S = some rv_ → (Gm p l e (headSpec wA_X4_netOfAll ({ frames := 6, cells := 0, slots := 0, locals := 141 } : Room)).room s m args below meth c Q g A 5 0 0 (wM g b rv_.2.2) [some (.ref (b 0)), some (.int x1), some (.int x2), some (.int rv_.1), some (.int rv_.2.1)] [] 31) → Gm p l e (headSpec wA_X4_netOfAll ({ frames := 6, cells := 0, slots := 0, locals := 141 } : Room)).room s m args below meth c Q g A 5 0 0 (wM g b S) [some (.ref (b 0)), some (.int x1), some (.int x2), some (.int x3), some (.int x4)] [] 5 := by
  intro n_
  induction n_ with
  | zero =>
    intro x3 x4 S rv_ hR
    simp [f_X4_netOfAll_L5] at hR
  | succ n_ ih =>
    intro x3 x4 S rv_ hR hk
    rw [f_X4_netOfAll_L5] at hR
    refine g_iload C dX4_netOfAll_5 rfl 7 rfl ?_
    refine g_aload_n C dX4_netOfAll_7 rfl 8 rfl ?_
    refine g_get (v := .int (S.1 0 0)) C (hiC hiA_4) 0 rfl rfl 9 (by decide) (List.mem_cons_of_mem _ wl_239) rfl rfl dX4_netOfAll_8 11 rfl ?_
    refine g_icmp_ge C dX4_netOfAll_11 hR 31 14 (by decide) rfl (fun c_11 hR => ?_) (fun c_11 hR => ?_)
    · obtain rfl := Option.some.inj hR
      refine g_lv [some (.ref (b 0)), some (.int x1), some (.int x2), some (.int x3), some (.int x4)] (lvLe.sm (lvLe.sm (lvLe.sm (lvLe.sm (lvLe.sm lvLe.nil))))) ?_
      exact hk
    · refine g_iload_n C dX4_netOfAll_14 rfl 15 rfl ?_
      refine g_aload_n C dX4_netOfAll_15 rfl 16 rfl ?_
      refine g_iload C dX4_netOfAll_16 rfl 18 rfl ?_
      refine g_iload_n C dX4_netOfAll_18 rfl 19 rfl ?_
      refine g_iload_n C dX4_netOfAll_19 rfl 20 rfl ?_
      obtain ⟨v3, hv3, hR⟩ := opt_b hR
      refine g_callI C (rn_V C (k_X4_netByRule l g b S x4 x1 x2 N_ v3 hv3) (cwV 3 C.1.2.2.2.2 (gdV wl_861 wl_858 wl_859 wl_860 wl_5) rfl rfl rfl hd_X4_netByRule ⟨Nat.le_of_ble_eq_true rfl, Nat.le_of_ble_eq_true rfl⟩) 0 rfl rfl _ rg_C rg_n rfl rfl (Nat.le_of_ble_eq_true rfl) ⟨Nat.zero_le _, Nat.zero_le _⟩ dX4_netOfAll_20) (wM g b v3.2) (rg_put (wM_len.trans wM_len.symm)) (rg_len (wM_len.trans wM_len.symm)) 23 rfl ?_
      refine g_iadd C dX4_netOfAll_23 24 rfl ?_
      refine g_istore_n C dX4_netOfAll_24 [_, _, _, _, _] (Nat.le_of_ble_eq_true rfl) rfl rfl 25 rfl ?_
      refine g_iinc C dX4_netOfAll_25 rfl 1 ic_1 [_, _, _, _, _] (Nat.le_of_ble_eq_true rfl) rfl rfl 28 rfl ?_
      refine g_goto C dX4_netOfAll_28 5 (by decide) ?_
      refine g_lv [some (.ref (b 0)), some (.int x1), some (.int x2), some (.int (x3 + v3.1)), some (.int (x4 + 1))] (lvLe.sm (lvLe.sm (lvLe.sm (lvLe.sm (lvLe.sm lvLe.nil))))) ?_
      exact ih _ _ _ rv_ hR hk
def f_X4_netOfAll (S : (Nat → Nat → Int32) × (Nat → Nat → Int64)) (p0 : Int32) (p1 : Int32) (N_ : Nat) : Option (Int32 × ((Nat → Nat → Int32) × (Nat → Nat → Int64))) :=
  (f_X4_netOfAll_L5 p0 p1 N_ N_ 0 0 S).bind fun v4 =>
  some (v4.1, v4.2.2)
set_option maxRecDepth 100000 in
set_option maxHeartbeats 4000000 in
theorem k_X4_netOfAll (l : Launch) (g : gE) (b : Nat → Nat) (S : (Nat → Nat → Int32) × (Nat → Nat → Int64)) (p0 : Int32) (p1 : Int32) (N_ : Nat) (R_ : Int32 × ((Nat → Nat → Int32) × (Nat → Nat → Int64))) (hR : f_X4_netOfAll S p0 p1 N_ = some R_) : FnI l g yX4_netOfAll wA_X4_netOfAll { frames := 6, cells := 0, slots := 0, locals := 141 } [.ref (b 0), .int p0, .int p1] (wM g b S) R_.1 (wM g b R_.2) := by
  refine fEntry (As := [.ref (b 0), .int p0, .int p1]) (maxL := 5) (ret := (some .int)) (by decide) rfl [some (.ref (b 0)), some (.int p0), some (.int p1), none, none] (Nat.le_of_ble_eq_true rfl) (lvInB.to (lvInB.sm (lvInB.sm (lvInB.sm (lvInB.nn (lvInB.nn lvInB.nil)))))) ?_
  intro p e s m below meth c A C hr hlocks hname hA
  have C : Cx p s m _ c g A cX4_netOfAll 5 wA_X4_netOfAll RX4 := C
  rw [f_X4_netOfAll] at hR
  refine g_iconst C dX4_netOfAll_0 0 ic_0 1 rfl ?_
  refine g_istore_n C dX4_netOfAll_1 [_, _, _, _, _] (Nat.le_of_ble_eq_true rfl) rfl rfl 2 rfl ?_
  refine g_iconst C dX4_netOfAll_2 0 ic_0 3 rfl ?_
  refine g_istore C dX4_netOfAll_3 [_, _, _, _, _] (Nat.le_of_ble_eq_true rfl) rfl rfl 5 rfl ?_
  refine g_lv [some (.ref (b 0)), some (.int p0), some (.int p1), some (.int 0), some (.int 0)] (lvLe.sm (lvLe.sm (lvLe.sm (lvLe.sm (lvLe.sm lvLe.nil))))) ?_
  obtain ⟨v4, hv4, hR⟩ := opt_b hR
  refine k_X4_netOfAll_L5 l g C N_ p0 p1 N_ 0 0 S _ hv4 ?_
  refine g_iload_n C dX4_netOfAll_31 rfl 32 rfl ?_
  obtain rfl := Option.some.inj hR
  exact g_iret C hr hlocks hA (by first | (dsimp only; done) | rfl) (by first | (dsimp only; done) | rfl) dX4_netOfAll_32
theorem hd_X4_bestRule : yX4_bestRule.cls = RX4 ∧ yX4_bestRule.cls ≠ "java/lang/invoke/MethodHandle" ∧ yX4_bestRule.cls ≠ "java/lang/invoke/VarHandle" ∧ (parseMethodDescriptor yX4_bestRule.desc).map (fun d => d.parameters.length) = some 1 := by decide +kernel
def f_X4_bestRule_L17 (x1 : Int32) (N_ : Nat) : Nat → Int32 → Int32 → ((Nat → Nat → Int32) × (Nat → Nat → Int64)) → Option (Int32 × Int32 × ((Nat → Nat → Int32) × (Nat → Nat → Int64)))
  | 0, _, _, _ => none
  | n_ + 1, x2, x3, S =>
    if 5 ≤ x3 then
      some (x2, x3, S)
    else
      (f_X4_netOfAll S x3 x1 N_).bind fun v5 =>
      (f_X4_netOfAll v5.2 x2 x1 N_).bind fun v6 =>
      if v5.1 ≤ v6.1 then
        f_X4_bestRule_L17 x1 N_ n_ x2 (x3 + 1) v6.2
      else
        f_X4_bestRule_L17 x1 N_ n_ x3 (x3 + 1) v6.2
set_option maxRecDepth 100000 in
set_option maxHeartbeats 4000000 in
theorem k_X4_bestRule_L17 (l : Launch) (g : gE) {p : Program} {e : Env} {s : State} {m : MethodId} {args : Array Value} {below : List Frame} {meth : Method} {c : Code} {Q : State → Prop} {A : Nat → Prop} {b : Nat → Nat}  (C : Cx p s m args c g A cX4_bestRule 4 wA_X4_bestRule RX4) (N_ : Nat) (x1 : Int32) : ∀ (n_ : Nat) (x2 : Int32) (x3 : Int32) (S : (Nat → Nat → Int32) × (Nat → Nat → Int64)) (rv_ : Int32 × Int32 × ((Nat → Nat → Int32) × (Nat → Nat → Int64))), f_X4_bestRule_L17 x1 N_ n_ x2 x3 S = some rv_ → (Gm p l e (headSpec wA_X4_bestRule ({ frames := 7, cells := 0, slots := 0, locals := 165 } : Room)).room s m args below meth c Q g A 4 0 0 (wM g b rv_.2.2) [some (.ref (b 0)), some (.int x1), some (.int rv_.1), some (.int rv_.2.1)] [] 49) → Gm p l e (headSpec wA_X4_bestRule ({ frames := 7, cells := 0, slots := 0, locals := 165 } : Room)).room s m args below meth c Q g A 4 0 0 (wM g b S) [some (.ref (b 0)), some (.int x1), some (.int x2), some (.int x3)] [] 17 := by
  intro n_
  induction n_ with
  | zero =>
    intro x2 x3 S rv_ hR
    simp [f_X4_bestRule_L17] at hR
  | succ n_ ih =>
    intro x2 x3 S rv_ hR hk
    rw [f_X4_bestRule_L17] at hR
    refine g_iload_n C dX4_bestRule_17 rfl 18 rfl ?_
    refine g_iconst C dX4_bestRule_18 5 ic_5 19 rfl ?_
    refine g_icmp_ge C dX4_bestRule_19 hR 49 22 (by decide) rfl (fun c_19 hR => ?_) (fun c_19 hR => ?_)
    · obtain rfl := Option.some.inj hR
      refine g_lv [some (.ref (b 0)), some (.int x1), some (.int x2), some (.int x3)] (lvLe.sm (lvLe.sm (lvLe.sm (lvLe.sm lvLe.nil)))) ?_
      exact hk
    · refine g_aload_n C dX4_bestRule_22 rfl 23 rfl ?_
      refine g_iload_n C dX4_bestRule_23 rfl 24 rfl ?_
      refine g_iload_n C dX4_bestRule_24 rfl 25 rfl ?_
      obtain ⟨v5, hv5, hR⟩ := opt_b hR
      refine g_callI C (rn_V C (k_X4_netOfAll l g b S x3 x1 N_ v5 hv5) (cwV 2 C.1.2.2.2.2 (gdV wl_873 wl_870 wl_871 wl_872 wl_5) rfl rfl rfl hd_X4_netOfAll ⟨Nat.le_of_ble_eq_true rfl, Nat.le_of_ble_eq_true rfl⟩) 0 rfl rfl _ rg_C rg_n rfl rfl (Nat.le_of_ble_eq_true rfl) ⟨Nat.zero_le _, Nat.zero_le _⟩ dX4_bestRule_25) (wM g b v5.2) (rg_put (wM_len.trans wM_len.symm)) (rg_len (wM_len.trans wM_len.symm)) 28 rfl ?_
      refine g_aload_n C dX4_bestRule_28 rfl 29 rfl ?_
      refine g_iload_n C dX4_bestRule_29 rfl 30 rfl ?_
      refine g_iload_n C dX4_bestRule_30 rfl 31 rfl ?_
      obtain ⟨v6, hv6, hR⟩ := opt_b hR
      refine g_callI C (rn_V C (k_X4_netOfAll l g b v5.2 x2 x1 N_ v6 hv6) (cwV 2 C.1.2.2.2.2 (gdV wl_873 wl_870 wl_871 wl_872 wl_5) rfl rfl rfl hd_X4_netOfAll ⟨Nat.le_of_ble_eq_true rfl, Nat.le_of_ble_eq_true rfl⟩) 0 rfl rfl _ rg_C rg_n rfl rfl (Nat.le_of_ble_eq_true rfl) ⟨Nat.zero_le _, Nat.zero_le _⟩ dX4_bestRule_31) (wM g b v6.2) (rg_put (wM_len.trans wM_len.symm)) (rg_len (wM_len.trans wM_len.symm)) 34 rfl ?_
      refine g_icmp_le C dX4_bestRule_34 hR 41 37 (by decide) rfl (fun c_34 hR => ?_) (fun c_34 hR => ?_)
      · refine g_iload_n C dX4_bestRule_41 rfl 42 rfl ?_
        refine g_istore_n C dX4_bestRule_42 [_, _, _, _] (Nat.le_of_ble_eq_true rfl) rfl rfl 43 rfl ?_
        refine g_iinc C dX4_bestRule_43 rfl 1 ic_1 [_, _, _, _] (Nat.le_of_ble_eq_true rfl) rfl rfl 46 rfl ?_
        refine g_goto C dX4_bestRule_46 17 (by decide) ?_
        refine g_lv [some (.ref (b 0)), some (.int x1), some (.int x2), some (.int (x3 + 1))] (lvLe.sm (lvLe.sm (lvLe.sm (lvLe.sm lvLe.nil)))) ?_
        exact ih _ _ _ rv_ hR hk
      · refine g_iload_n C dX4_bestRule_37 rfl 38 rfl ?_
        refine g_goto C dX4_bestRule_38 42 (by decide) ?_
        refine g_istore_n C dX4_bestRule_42 [_, _, _, _] (Nat.le_of_ble_eq_true rfl) rfl rfl 43 rfl ?_
        refine g_iinc C dX4_bestRule_43 rfl 1 ic_1 [_, _, _, _] (Nat.le_of_ble_eq_true rfl) rfl rfl 46 rfl ?_
        refine g_goto C dX4_bestRule_46 17 (by decide) ?_
        refine g_lv [some (.ref (b 0)), some (.int x1), some (.int x3), some (.int (x3 + 1))] (lvLe.sm (lvLe.sm (lvLe.sm (lvLe.sm lvLe.nil)))) ?_
        exact ih _ _ _ rv_ hR hk
def f_X4_bestRule (S : (Nat → Nat → Int32) × (Nat → Nat → Int64)) (p0 : Int32) (N_ : Nat) : Option (Int32 × ((Nat → Nat → Int32) × (Nat → Nat → Int64))) :=
  if (b2i (f_X4_isWhom p0)) = 0 then
    (f_X4_no S (-1) N_).bind fun v8 =>
    some (v8.1, v8.2)
  else
    (f_X4_bestRule_L17 p0 N_ N_ 0 1 S).bind fun v7 =>
    some (v7.1, v7.2.2)
set_option maxRecDepth 100000 in
set_option maxHeartbeats 4000000 in
theorem k_X4_bestRule (l : Launch) (g : gE) (b : Nat → Nat) (S : (Nat → Nat → Int32) × (Nat → Nat → Int64)) (p0 : Int32) (N_ : Nat) (R_ : Int32 × ((Nat → Nat → Int32) × (Nat → Nat → Int64))) (hR : f_X4_bestRule S p0 N_ = some R_) : FnI l g yX4_bestRule wA_X4_bestRule { frames := 7, cells := 0, slots := 0, locals := 165 } [.ref (b 0), .int p0] (wM g b S) R_.1 (wM g b R_.2) := by
  refine fEntry (As := [.ref (b 0), .int p0]) (maxL := 4) (ret := (some .int)) (by decide) rfl [some (.ref (b 0)), some (.int p0), none, none] (Nat.le_of_ble_eq_true rfl) (lvInB.to (lvInB.sm (lvInB.sm (lvInB.nn (lvInB.nn lvInB.nil))))) ?_
  intro p e s m below meth c A C hr hlocks hname hA
  have C : Cx p s m _ c g A cX4_bestRule 4 wA_X4_bestRule RX4 := C
  rw [f_X4_bestRule] at hR
  refine g_iload_n C dX4_bestRule_0 rfl 1 rfl ?_
  refine g_callIR C (rn_S C (k_X4_isWhom l g p0) (va_cwS 1 C.1.2.2.2.2 (gdS wl_524 wl_522 wl_523 wl_5) rfl rfl rfl hd_X4_isWhom.2 ⟨Nat.le_of_ble_eq_true rfl, Nat.le_of_ble_eq_true rfl⟩) [] rfl rfl rfl rfl (Nat.le_of_ble_eq_true rfl) ⟨Nat.zero_le _, Nat.zero_le _⟩ dX4_bestRule_1) 4 rfl ?_
  refine g_if_ne C dX4_bestRule_4 hR 13 7 (by decide) rfl (fun c_4 hR => ?_) (fun c_4 hR => ?_)
  · refine g_iconst C dX4_bestRule_13 0 ic_0 14 rfl ?_
    refine g_istore_n C dX4_bestRule_14 [_, _, _, _] (Nat.le_of_ble_eq_true rfl) rfl rfl 15 rfl ?_
    refine g_iconst C dX4_bestRule_15 1 ic_1 16 rfl ?_
    refine g_istore_n C dX4_bestRule_16 [_, _, _, _] (Nat.le_of_ble_eq_true rfl) rfl rfl 17 rfl ?_
    refine g_lv [some (.ref (b 0)), some (.int p0), some (.int 0), some (.int 1)] (lvLe.sm (lvLe.sm (lvLe.sm (lvLe.sm lvLe.nil)))) ?_
    obtain ⟨v7, hv7, hR⟩ := opt_b hR
    refine k_X4_bestRule_L17 l g C N_ p0 N_ 0 1 S _ hv7 ?_
    refine g_iload_n C dX4_bestRule_49 rfl 50 rfl ?_
    obtain rfl := Option.some.inj hR
    exact g_iret C hr hlocks hA (by first | (dsimp only; done) | rfl) (by first | (dsimp only; done) | rfl) dX4_bestRule_50
  · refine g_aload_n C dX4_bestRule_7 rfl 8 rfl ?_
    refine g_iconst C dX4_bestRule_8 (-1) ic_m1 9 rfl ?_
    obtain ⟨v8, hv8, hR⟩ := opt_b hR
    refine g_callI C (rn_V C (k_X4_no l g b S (-1) N_ v8 hv8) (cwV 1 C.1.2.2.2.2 (gdV wl_111 wl_108 wl_109 wl_110 wl_5) rfl rfl rfl hd_X4_no ⟨Nat.le_of_ble_eq_true rfl, Nat.le_of_ble_eq_true rfl⟩) 0 rfl rfl _ rg_C rg_n rfl rfl (Nat.le_of_ble_eq_true rfl) ⟨Nat.zero_le _, Nat.zero_le _⟩ dX4_bestRule_9) (wM g b v8.2) (rg_put (wM_len.trans wM_len.symm)) (rg_len (wM_len.trans wM_len.symm)) 12 rfl ?_
    obtain rfl := Option.some.inj hR
    exact g_iret C hr hlocks hA (by first | (dsimp only; done) | rfl) (by first | (dsimp only; done) | rfl) dX4_bestRule_12
theorem hd_X4_arePairs : yX4_arePairs.cls = RX4 ∧ yX4_arePairs.cls ≠ "java/lang/invoke/MethodHandle" ∧ yX4_arePairs.cls ≠ "java/lang/invoke/VarHandle" ∧ (parseMethodDescriptor yX4_arePairs.desc).map (fun d => d.parameters.length) = some 0 := by decide +kernel
def f_X4_arePairs_L2 (S : (Nat → Nat → Int32) × (Nat → Nat → Int64)) (N_ : Nat) : Nat → Int32 → Option ((Bool) ⊕ (Int32))
  | 0, _ => none
  | n_ + 1, x1 =>
    if (S.1 0 11) ≤ x1 then
      some (.inr x1)
    else
      if x1 < 0 ∨ 12 ≤ (Int32.toNatClampNeg x1) then none else
      if ((S.1 15) (Int32.toNatClampNeg x1)) ≤ 1 then
        f_X4_arePairs_L2 S N_ n_ (x1 + 2)
      else
        some (.inl false)
set_option maxRecDepth 100000 in
set_option maxHeartbeats 4000000 in
theorem k_X4_arePairs_L2 (l : Launch) (g : gE) {p : Program} {e : Env} {s : State} {m : MethodId} {args : Array Value} {below : List Frame} {meth : Method} {c : Code} {Q : State → Prop} {A : Nat → Prop} {wc0 : va_W} {b : Nat → Nat}  (C : Cx p s m args c g A cX4_arePairs 2 wA_X4_arePairs RX4) (hr : meth.sig.returnType = some .boolean) (hlocks : meth.locks = false) (hA : va_A wc0 s.heap.size = A) (N_ : Nat) (S : (Nat → Nat → Int32) × (Nat → Nat → Int64)) : ∀ (n_ : Nat) (x1 : Int32) (rv_ : (Bool) ⊕ (Int32)), f_X4_arePairs_L2 S N_ n_ x1 = some rv_ → (∀ v_, rv_ = .inr v_ → Gm p l e (headSpec wA_X4_arePairs ({ frames := 0, cells := 0, slots := 0, locals := 0 } : Room)).room s m args below meth c Q g A 2 0 0 (wM g b S) [some (.ref (b 0)), some (.int v_)] [] 28) → (∀ r_, rv_ = .inl r_ → Q = MQ below (qI g wc0 (b2i r_) (wM g b S) s.heap.size) args s 0 0 A) → Gm p l e (headSpec wA_X4_arePairs ({ frames := 0, cells := 0, slots := 0, locals := 0 } : Room)).room s m args below meth c Q g A 2 0 0 (wM g b S) [some (.ref (b 0)), some (.int x1)] [] 2 := by
  intro n_
  induction n_ with
  | zero =>
    intro x1 rv_ hR
    simp [f_X4_arePairs_L2] at hR
  | succ n_ ih =>
    intro x1 rv_ hR hk hq
    rw [f_X4_arePairs_L2] at hR
    refine g_iload_n C dX4_arePairs_2 rfl 3 rfl ?_
    refine g_aload_n C dX4_arePairs_3 rfl 4 rfl ?_
    refine g_get (v := .int (S.1 0 11)) C (hiC hiA_4) 0 rfl rfl 30 (by decide) (List.mem_cons_of_mem _ wl_812) rfl rfl dX4_arePairs_4 7 rfl ?_
    refine g_icmp_ge C dX4_arePairs_7 hR 28 10 (by decide) rfl (fun c_7 hR => ?_) (fun c_7 hR => ?_)
    · obtain rfl := Option.some.inj hR
      refine g_lv [some (.ref (b 0)), some (.int x1)] (lvLe.sm (lvLe.sm lvLe.nil)) ?_
      exact hk _ rfl
    · refine g_aload_n C dX4_arePairs_10 rfl 11 rfl ?_
      refine g_get (v := .ref (b 15)) C (hiC hiA_4) 0 rfl rfl 28 (by decide) (List.mem_cons_of_mem _ wl_83) rfl rfl dX4_arePairs_11 14 rfl ?_
      refine g_iload_n C dX4_arePairs_14 rfl 15 rfl ?_
      obtain ⟨h_15, hR⟩ := opt_n hR
      refine g_iald (f := (S.1 15)) C 15 rfl h_15 dX4_arePairs_15 16 rfl ?_
      refine g_iconst C dX4_arePairs_16 1 ic_1 17 rfl ?_
      refine g_icmp_le C dX4_arePairs_17 hR 22 20 (by decide) rfl (fun c_17 hR => ?_) (fun c_17 hR => ?_)
      · refine g_iinc C dX4_arePairs_22 rfl 2 ic_2 [_, _] (Nat.le_of_ble_eq_true rfl) rfl rfl 25 rfl ?_
        refine g_goto C dX4_arePairs_25 2 (by decide) ?_
        refine g_lv [some (.ref (b 0)), some (.int (x1 + 2))] (lvLe.sm (lvLe.sm lvLe.nil)) ?_
        exact ih _ rv_ hR hk hq
      · refine g_iconst C dX4_arePairs_20 0 ic_0 21 rfl ?_
        obtain rfl := Option.some.inj hR
        rw [hq _ rfl]
        exact g_zret C hr hlocks (by decide) hA rfl (by first | (dsimp only; done) | rfl) dX4_arePairs_21
def f_X4_arePairs (S : (Nat → Nat → Int32) × (Nat → Nat → Int64)) (N_ : Nat) : Option (Bool) :=
  (f_X4_arePairs_L2 S N_ N_ 1).bind fun v1 =>
    match v1 with
    | .inl r => some r
    | .inr v2 =>
      if ((S.1 0 11) - (S.1 0 11) / 2 * 2) = 0 then
        some true
      else
        some false
set_option maxRecDepth 100000 in
set_option maxHeartbeats 4000000 in
theorem k_X4_arePairs (l : Launch) (g : gE) (b : Nat → Nat) (S : (Nat → Nat → Int32) × (Nat → Nat → Int64)) (N_ : Nat) (R_ : Bool) (hR : f_X4_arePairs S N_ = some R_) : FnI l g yX4_arePairs wA_X4_arePairs { frames := 0, cells := 0, slots := 0, locals := 0 } [.ref (b 0)] (wM g b S) (b2i R_) (wM g b S) := by
  refine fEntry (As := [.ref (b 0)]) (maxL := 2) (ret := (some .boolean)) (by decide) rfl [some (.ref (b 0)), none] (Nat.le_of_ble_eq_true rfl) (lvInB.to (lvInB.sm (lvInB.nn lvInB.nil))) ?_
  intro p e s m below meth c A C hr hlocks hname hA
  have C : Cx p s m _ c g A cX4_arePairs 2 wA_X4_arePairs RX4 := C
  rw [f_X4_arePairs] at hR
  refine g_iconst C dX4_arePairs_0 1 ic_1 1 rfl ?_
  refine g_istore_n C dX4_arePairs_1 [_, _] (Nat.le_of_ble_eq_true rfl) rfl rfl 2 rfl ?_
  refine g_lv [some (.ref (b 0)), some (.int 1)] (lvLe.sm (lvLe.sm lvLe.nil)) ?_
  obtain ⟨v1, hv1, hR⟩ := opt_b hR
  rcases v1 with r_ | v2
  · refine k_X4_arePairs_L2 l g C hr hlocks hA N_ S N_ 1 _ hv1 (fun _ h => nomatch h) (fun r h => ?_)
    cases h
    obtain rfl := Option.some.inj hR
    rfl
  · refine k_X4_arePairs_L2 l g C hr hlocks hA N_ S N_ 1 _ hv1 (fun _ h => ?_) (fun _ h => nomatch h)
    cases h
    refine g_aload_n C dX4_arePairs_28 rfl 29 rfl ?_
    refine g_get (v := .int (S.1 0 11)) C (hiC hiA_4) 0 rfl rfl 30 (by decide) (List.mem_cons_of_mem _ wl_812) rfl rfl dX4_arePairs_29 32 rfl ?_
    refine g_iconst C dX4_arePairs_32 2 ic_2 33 rfl ?_
    refine g_irem C dX4_arePairs_33 (by decide) 34 rfl ?_
    refine g_if_ne C dX4_arePairs_34 hR 41 37 (by decide) rfl (fun c_34 hR => ?_) (fun c_34 hR => ?_)
    · refine g_iconst C dX4_arePairs_41 0 ic_0 42 rfl ?_
      obtain rfl := Option.some.inj hR
      exact g_zret C hr hlocks (by decide) hA rfl (by first | (dsimp only; done) | rfl) dX4_arePairs_42
    · refine g_iconst C dX4_arePairs_37 1 ic_1 38 rfl ?_
      refine g_goto C dX4_arePairs_38 42 (by decide) ?_
      obtain rfl := Option.some.inj hR
      exact g_zret C hr hlocks (by decide) hA rfl (by first | (dsimp only; done) | rfl) dX4_arePairs_42
theorem hd_X4_isIllBy : yX4_isIllBy.cls = RX4 ∧ yX4_isIllBy.cls ≠ "java/lang/invoke/MethodHandle" ∧ yX4_isIllBy.cls ≠ "java/lang/invoke/VarHandle" ∧ (parseMethodDescriptor yX4_isIllBy.desc).map (fun d => d.parameters.length) = some 2 := by decide +kernel
def f_X4_isIllBy (S : (Nat → Nat → Int32) × (Nat → Nat → Int64)) (p0 : Int32) (p1 : Int32) (N_ : Nat) : Option (Bool) :=
  if (2 * p1) < 0 ∨ 12 ≤ (Int32.toNatClampNeg (2 * p1)) then none else
  if (f_X4_stageAt (f_X4_heldPoints ((f_X4_coldOf p0) * ((S.1 15) (Int32.toNatClampNeg (2 * p1)))))) ≤ 2 then
    if ((2 * p1) + 1) < 0 ∨ 12 ≤ (Int32.toNatClampNeg ((2 * p1) + 1)) then none else
    if ((S.1 15) (Int32.toNatClampNeg ((2 * p1) + 1))) = 1 then
      some false
    else
      some true
  else
    if ((2 * p1) + 1) < 0 ∨ 12 ≤ (Int32.toNatClampNeg ((2 * p1) + 1)) then none else
    if ((S.1 15) (Int32.toNatClampNeg ((2 * p1) + 1))) = 1 then
      some true
    else
      some false
set_option maxRecDepth 100000 in
set_option maxHeartbeats 4000000 in
theorem k_X4_isIllBy (l : Launch) (g : gE) (b : Nat → Nat) (S : (Nat → Nat → Int32) × (Nat → Nat → Int64)) (p0 : Int32) (p1 : Int32) (N_ : Nat) (R_ : Bool) (hR : f_X4_isIllBy S p0 p1 N_ = some R_) : FnI l g yX4_isIllBy wA_X4_isIllBy { frames := 1, cells := 0, slots := 0, locals := 20 } [.ref (b 0), .int p0, .int p1] (wM g b S) (b2i R_) (wM g b S) := by
  refine fEntry (As := [.ref (b 0), .int p0, .int p1]) (maxL := 4) (ret := (some .boolean)) (by decide) rfl [some (.ref (b 0)), some (.int p0), some (.int p1), none] (Nat.le_of_ble_eq_true rfl) (lvInB.to (lvInB.sm (lvInB.sm (lvInB.sm (lvInB.nn lvInB.nil))))) ?_
  intro p e s m below meth c A C hr hlocks hname hA
  have C : Cx p s m _ c g A cX4_isIllBy 4 wA_X4_isIllBy RX4 := C
  rw [f_X4_isIllBy] at hR
  refine g_iload_n C dX4_isIllBy_0 rfl 1 rfl ?_
  refine g_callIR C (rn_S C (k_X4_coldOf l g p0) (va_cwS 1 C.1.2.2.2.2 (gdS wl_265 wl_263 wl_264 wl_5) rfl rfl rfl hd_X4_coldOf.2 ⟨Nat.le_of_ble_eq_true rfl, Nat.le_of_ble_eq_true rfl⟩) [] rfl rfl rfl rfl (Nat.le_of_ble_eq_true rfl) ⟨Nat.zero_le _, Nat.zero_le _⟩ dX4_isIllBy_1) 4 rfl ?_
  refine g_aload_n C dX4_isIllBy_4 rfl 5 rfl ?_
  refine g_get (v := .ref (b 15)) C (hiC hiA_4) 0 rfl rfl 28 (by decide) (List.mem_cons_of_mem _ wl_83) rfl rfl dX4_isIllBy_5 8 rfl ?_
  refine g_iconst C dX4_isIllBy_8 2 ic_2 9 rfl ?_
  refine g_iload_n C dX4_isIllBy_9 rfl 10 rfl ?_
  refine g_imul C dX4_isIllBy_10 11 rfl ?_
  obtain ⟨h_11, hR⟩ := opt_n hR
  refine g_iald (f := (S.1 15)) C 15 rfl h_11 dX4_isIllBy_11 12 rfl ?_
  refine g_imul C dX4_isIllBy_12 13 rfl ?_
  refine g_callIR C (rn_S C (k_X4_heldPoints l g ((f_X4_coldOf p0) * ((S.1 15) (Int32.toNatClampNeg (2 * p1))))) (va_cwS 1 C.1.2.2.2.2 (gdS wl_272 wl_270 wl_271 wl_5) rfl rfl rfl hd_X4_heldPoints.2 ⟨Nat.le_of_ble_eq_true rfl, Nat.le_of_ble_eq_true rfl⟩) [] rfl rfl rfl rfl (Nat.le_of_ble_eq_true rfl) ⟨Nat.zero_le _, Nat.zero_le _⟩ dX4_isIllBy_13) 16 rfl ?_
  refine g_callIR C (rn_S C (k_X4_stageAt l g (f_X4_heldPoints ((f_X4_coldOf p0) * ((S.1 15) (Int32.toNatClampNeg (2 * p1)))))) (va_cwS 1 C.1.2.2.2.2 (gdS wl_314 wl_312 wl_313 wl_5) rfl rfl rfl hd_X4_stageAt.2 ⟨Nat.le_of_ble_eq_true rfl, Nat.le_of_ble_eq_true rfl⟩) [] rfl rfl rfl rfl (Nat.le_of_ble_eq_true rfl) ⟨Nat.zero_le _, Nat.zero_le _⟩ dX4_isIllBy_16) 19 rfl ?_
  refine g_iconst C dX4_isIllBy_19 2 ic_2 20 rfl ?_
  refine g_icmp_le C dX4_isIllBy_20 hR 27 23 (by decide) rfl (fun c_20 hR => ?_) (fun c_20 hR => ?_)
  · refine g_iconst C dX4_isIllBy_27 0 ic_0 28 rfl ?_
    refine g_istore_n C dX4_isIllBy_28 [_, _, _, _] (Nat.le_of_ble_eq_true rfl) rfl rfl 29 rfl ?_
    refine g_iload_n C dX4_isIllBy_29 rfl 30 rfl ?_
    refine g_aload_n C dX4_isIllBy_30 rfl 31 rfl ?_
    refine g_get (v := .ref (b 15)) C (hiC hiA_4) 0 rfl rfl 28 (by decide) (List.mem_cons_of_mem _ wl_83) rfl rfl dX4_isIllBy_31 34 rfl ?_
    refine g_iconst C dX4_isIllBy_34 2 ic_2 35 rfl ?_
    refine g_iload_n C dX4_isIllBy_35 rfl 36 rfl ?_
    refine g_imul C dX4_isIllBy_36 37 rfl ?_
    refine g_iconst C dX4_isIllBy_37 1 ic_1 38 rfl ?_
    refine g_iadd C dX4_isIllBy_38 39 rfl ?_
    obtain ⟨h_39, hR⟩ := opt_n hR
    refine g_iald (f := (S.1 15)) C 15 rfl h_39 dX4_isIllBy_39 40 rfl ?_
    refine g_iconst C dX4_isIllBy_40 1 ic_1 41 rfl ?_
    refine g_icmp_ne C dX4_isIllBy_41 hR 48 44 (by decide) rfl (fun c_41 hR => ?_) (fun c_41 hR => ?_)
    · refine g_iconst C dX4_isIllBy_48 0 ic_0 49 rfl ?_
      refine g_icmp_neF C dX4_isIllBy_49 (by decide) 56 52 (by decide) rfl ?_
      refine g_iconst C dX4_isIllBy_52 1 ic_1 53 rfl ?_
      refine g_goto C dX4_isIllBy_53 57 (by decide) ?_
      obtain rfl := Option.some.inj hR
      exact g_zret C hr hlocks (by decide) hA rfl (by first | (dsimp only; done) | rfl) dX4_isIllBy_57
    · refine g_iconst C dX4_isIllBy_44 1 ic_1 45 rfl ?_
      refine g_goto C dX4_isIllBy_45 49 (by decide) ?_
      refine g_icmp_neT C dX4_isIllBy_49 (by decide) 56 (by decide) ?_
      refine g_iconst C dX4_isIllBy_56 0 ic_0 57 rfl ?_
      obtain rfl := Option.some.inj hR
      exact g_zret C hr hlocks (by decide) hA rfl (by first | (dsimp only; done) | rfl) dX4_isIllBy_57
  · refine g_iconst C dX4_isIllBy_23 1 ic_1 24 rfl ?_
    refine g_goto C dX4_isIllBy_24 28 (by decide) ?_
    refine g_istore_n C dX4_isIllBy_28 [_, _, _, _] (Nat.le_of_ble_eq_true rfl) rfl rfl 29 rfl ?_
    refine g_iload_n C dX4_isIllBy_29 rfl 30 rfl ?_
    refine g_aload_n C dX4_isIllBy_30 rfl 31 rfl ?_
    refine g_get (v := .ref (b 15)) C (hiC hiA_4) 0 rfl rfl 28 (by decide) (List.mem_cons_of_mem _ wl_83) rfl rfl dX4_isIllBy_31 34 rfl ?_
    refine g_iconst C dX4_isIllBy_34 2 ic_2 35 rfl ?_
    refine g_iload_n C dX4_isIllBy_35 rfl 36 rfl ?_
    refine g_imul C dX4_isIllBy_36 37 rfl ?_
    refine g_iconst C dX4_isIllBy_37 1 ic_1 38 rfl ?_
    refine g_iadd C dX4_isIllBy_38 39 rfl ?_
    obtain ⟨h_39, hR⟩ := opt_n hR
    refine g_iald (f := (S.1 15)) C 15 rfl h_39 dX4_isIllBy_39 40 rfl ?_
    refine g_iconst C dX4_isIllBy_40 1 ic_1 41 rfl ?_
    refine g_icmp_ne C dX4_isIllBy_41 hR 48 44 (by decide) rfl (fun c_41 hR => ?_) (fun c_41 hR => ?_)
    · refine g_iconst C dX4_isIllBy_48 0 ic_0 49 rfl ?_
      refine g_icmp_neT C dX4_isIllBy_49 (by decide) 56 (by decide) ?_
      refine g_iconst C dX4_isIllBy_56 0 ic_0 57 rfl ?_
      obtain rfl := Option.some.inj hR
      exact g_zret C hr hlocks (by decide) hA rfl (by first | (dsimp only; done) | rfl) dX4_isIllBy_57
    · refine g_iconst C dX4_isIllBy_44 1 ic_1 45 rfl ?_
      refine g_goto C dX4_isIllBy_45 49 (by decide) ?_
      refine g_icmp_neF C dX4_isIllBy_49 (by decide) 56 52 (by decide) rfl ?_
      refine g_iconst C dX4_isIllBy_52 1 ic_1 53 rfl ?_
      refine g_goto C dX4_isIllBy_53 57 (by decide) ?_
      obtain rfl := Option.some.inj hR
      exact g_zret C hr hlocks (by decide) hA rfl (by first | (dsimp only; done) | rfl) dX4_isIllBy_57
theorem hd_X4_ill : yX4_ill.cls = RX4 ∧ yX4_ill.cls ≠ "java/lang/invoke/MethodHandle" ∧ yX4_ill.cls ≠ "java/lang/invoke/VarHandle" ∧ (parseMethodDescriptor yX4_ill.desc).map (fun d => d.parameters.length) = some 1 := by decide +kernel
def f_X4_ill_L69 (x5 : Int32) (S : (Nat → Nat → Int32) × (Nat → Nat → Int64)) (N_ : Nat) : Nat → Int32 → Int32 → Option (Int32 × Int32)
  | 0, _, _ => none
  | n_ + 1, x3, x6 =>
    if 6 ≤ x6 then
      some (x3, x6)
    else
      (f_X4_isIllBy S x6 x5 N_).bind fun v5 =>
      if (b2i v5) = 0 then
        f_X4_ill_L69 x5 S N_ n_ (x3 &&& (((1 : Int32) <<< (x6 &&& 31)) ^^^ (-1))) (x6 + 1)
      else
        f_X4_ill_L69 x5 S N_ n_ (x3 &&& 63) (x6 + 1)
set_option maxRecDepth 100000 in
set_option maxHeartbeats 4000000 in
theorem k_X4_ill_L69 (l : Launch) (g : gE) {p : Program} {e : Env} {s : State} {m : MethodId} {args : Array Value} {below : List Frame} {meth : Method} {c : Code} {Q : State → Prop} {A : Nat → Prop} {b : Nat → Nat}  (C : Cx p s m args c g A cX4_ill 7 wA_X4_ill RX4) (N_ : Nat) (x1 : Int32) (x2 : Int32) (x4 : Int32) (x5 : Int32) (S : (Nat → Nat → Int32) × (Nat → Nat → Int64)) : ∀ (n_ : Nat) (x3 : Int32) (x6 : Int32) (rv_ : Int32 × Int32), f_X4_ill_L69 x5 S N_ n_ x3 x6 = some rv_ → (Gm p l e (headSpec wA_X4_ill ({ frames := 2, cells := 0, slots := 0, locals := 43 } : Room)).room s m args below meth c Q g A 7 0 0 (wM g b S) [some (.ref (b 0)), some (.int x1), some (.int x2), some (.int rv_.1), some (.int x4), some (.int x5), some (.int rv_.2)] [] 107) → Gm p l e (headSpec wA_X4_ill ({ frames := 2, cells := 0, slots := 0, locals := 43 } : Room)).room s m args below meth c Q g A 7 0 0 (wM g b S) [some (.ref (b 0)), some (.int x1), some (.int x2), some (.int x3), some (.int x4), some (.int x5), some (.int x6)] [] 69 := by
  intro n_
  induction n_ with
  | zero =>
    intro x3 x6 rv_ hR
    simp [f_X4_ill_L69] at hR
  | succ n_ ih =>
    intro x3 x6 rv_ hR hk
    rw [f_X4_ill_L69] at hR
    refine g_iload C dX4_ill_69 rfl 71 rfl ?_
    refine g_bipush C dX4_ill_71 6 bp_6 73 rfl ?_
    refine g_icmp_ge C dX4_ill_73 hR 107 76 (by decide) rfl (fun c_73 hR => ?_) (fun c_73 hR => ?_)
    · obtain rfl := Option.some.inj hR
      refine g_lv [some (.ref (b 0)), some (.int x1), some (.int x2), some (.int x3), some (.int x4), some (.int x5), some (.int x6)] (lvLe.sm (lvLe.sm (lvLe.sm (lvLe.sm (lvLe.sm (lvLe.sm (lvLe.sm lvLe.nil))))))) ?_
      exact hk
    · refine g_iload_n C dX4_ill_76 rfl 77 rfl ?_
      refine g_aload_n C dX4_ill_77 rfl 78 rfl ?_
      refine g_iload C dX4_ill_78 rfl 80 rfl ?_
      refine g_iload C dX4_ill_80 rfl 82 rfl ?_
      obtain ⟨v5, hv5, hR⟩ := opt_b hR
      refine g_callIR C (rn_V C (k_X4_isIllBy l g b S x6 x5 N_ v5 hv5) (cwV 2 C.1.2.2.2.2 (gdV wl_897 wl_894 wl_895 wl_896 wl_5) rfl rfl rfl hd_X4_isIllBy ⟨Nat.le_of_ble_eq_true rfl, Nat.le_of_ble_eq_true rfl⟩) 0 rfl rfl _ rg_C rg_n rfl rfl (Nat.le_of_ble_eq_true rfl) ⟨Nat.zero_le _, Nat.zero_le _⟩ dX4_ill_82) 85 rfl ?_
      refine g_if_eq C dX4_ill_85 hR 93 88 (by decide) rfl (fun c_85 hR => ?_) (fun c_85 hR => ?_)
      · refine g_iconst C dX4_ill_93 1 ic_1 94 rfl ?_
        refine g_iload C dX4_ill_94 rfl 96 rfl ?_
        refine g_ishl C dX4_ill_96 97 rfl ?_
        refine g_iconst C dX4_ill_97 (-1) ic_m1 98 rfl ?_
        refine g_ixor C dX4_ill_98 99 rfl ?_
        refine g_iand C dX4_ill_99 100 rfl ?_
        refine g_istore_n C dX4_ill_100 [_, _, _, _, _, _, _] (Nat.le_of_ble_eq_true rfl) rfl rfl 101 rfl ?_
        refine g_iinc C dX4_ill_101 rfl 1 ic_1 [_, _, _, _, _, _, _] (Nat.le_of_ble_eq_true rfl) rfl rfl 104 rfl ?_
        refine g_goto C dX4_ill_104 69 (by decide) ?_
        refine g_lv [some (.ref (b 0)), some (.int x1), some (.int x2), some (.int (x3 &&& (((1 : Int32) <<< (x6 &&& 31)) ^^^ (-1)))), some (.int x4), some (.int x5), some (.int (x6 + 1))] (lvLe.sm (lvLe.sm (lvLe.sm (lvLe.sm (lvLe.sm (lvLe.sm (lvLe.sm lvLe.nil))))))) ?_
        exact ih _ _ rv_ hR hk
      · refine g_bipush C dX4_ill_88 63 bp_63 90 rfl ?_
        refine g_goto C dX4_ill_90 99 (by decide) ?_
        refine g_iand C dX4_ill_99 100 rfl ?_
        refine g_istore_n C dX4_ill_100 [_, _, _, _, _, _, _] (Nat.le_of_ble_eq_true rfl) rfl rfl 101 rfl ?_
        refine g_iinc C dX4_ill_101 rfl 1 ic_1 [_, _, _, _, _, _, _] (Nat.le_of_ble_eq_true rfl) rfl rfl 104 rfl ?_
        refine g_goto C dX4_ill_104 69 (by decide) ?_
        refine g_lv [some (.ref (b 0)), some (.int x1), some (.int x2), some (.int (x3 &&& 63)), some (.int x4), some (.int x5), some (.int (x6 + 1))] (lvLe.sm (lvLe.sm (lvLe.sm (lvLe.sm (lvLe.sm (lvLe.sm (lvLe.sm lvLe.nil))))))) ?_
        exact ih _ _ rv_ hR hk
def f_X4_ill_L55 (S : (Nat → Nat → Int32) × (Nat → Nat → Int64)) (N_ : Nat) : Nat → Int32 → Int32 → Int32 → Option (Int32 × Int32 × Int32)
  | 0, _, _, _ => none
  | n_ + 1, x3, x4, x5 =>
    if (S.1 0 11) ≤ (2 * x5) then
      some (x3, x4, x5)
    else
      (f_X4_ill_L69 x5 S N_ N_ x3 0).bind fun v8 =>
      if v8.1 = 0 then
        if 0 ≤ x4 then
          f_X4_ill_L55 S N_ n_ v8.1 x4 (x5 + 1)
        else
          f_X4_ill_L55 S N_ n_ v8.1 x5 (x5 + 1)
      else
        f_X4_ill_L55 S N_ n_ v8.1 x4 (x5 + 1)
set_option maxRecDepth 100000 in
set_option maxHeartbeats 4000000 in
theorem k_X4_ill_L55 (l : Launch) (g : gE) {p : Program} {e : Env} {s : State} {m : MethodId} {args : Array Value} {below : List Frame} {meth : Method} {c : Code} {Q : State → Prop} {A : Nat → Prop} {b : Nat → Nat}  (C : Cx p s m args c g A cX4_ill 7 wA_X4_ill RX4) (N_ : Nat) (x1 : Int32) (x2 : Int32) (S : (Nat → Nat → Int32) × (Nat → Nat → Int64)) : ∀ (n_ : Nat) (x3 : Int32) (x4 : Int32) (x5 : Int32) (rv_ : Int32 × Int32 × Int32), f_X4_ill_L55 S N_ n_ x3 x4 x5 = some rv_ → (Gm p l e (headSpec wA_X4_ill ({ frames := 2, cells := 0, slots := 0, locals := 43 } : Room)).room s m args below meth c Q g A 7 0 0 (wM g b S) [some (.ref (b 0)), some (.int x1), some (.int x2), some (.int rv_.1), some (.int rv_.2.1), some (.int rv_.2.2), none] [] 131) → Gm p l e (headSpec wA_X4_ill ({ frames := 2, cells := 0, slots := 0, locals := 43 } : Room)).room s m args below meth c Q g A 7 0 0 (wM g b S) [some (.ref (b 0)), some (.int x1), some (.int x2), some (.int x3), some (.int x4), some (.int x5), none] [] 55 := by
  intro n_
  induction n_ with
  | zero =>
    intro x3 x4 x5 rv_ hR
    simp [f_X4_ill_L55] at hR
  | succ n_ ih =>
    intro x3 x4 x5 rv_ hR hk
    rw [f_X4_ill_L55] at hR
    refine g_iconst C dX4_ill_55 2 ic_2 56 rfl ?_
    refine g_iload C dX4_ill_56 rfl 58 rfl ?_
    refine g_imul C dX4_ill_58 59 rfl ?_
    refine g_aload_n C dX4_ill_59 rfl 60 rfl ?_
    refine g_get (v := .int (S.1 0 11)) C (hiC hiA_4) 0 rfl rfl 30 (by decide) (List.mem_cons_of_mem _ wl_812) rfl rfl dX4_ill_60 63 rfl ?_
    refine g_icmp_ge C dX4_ill_63 hR 131 66 (by decide) rfl (fun c_63 hR => ?_) (fun c_63 hR => ?_)
    · obtain rfl := Option.some.inj hR
      refine g_lv [some (.ref (b 0)), some (.int x1), some (.int x2), some (.int x3), some (.int x4), some (.int x5), none] (lvLe.sm (lvLe.sm (lvLe.sm (lvLe.sm (lvLe.sm (lvLe.sm (lvLe.nn lvLe.nil))))))) ?_
      exact hk
    · refine g_iconst C dX4_ill_66 0 ic_0 67 rfl ?_
      refine g_istore C dX4_ill_67 [_, _, _, _, _, _, _] (Nat.le_of_ble_eq_true rfl) rfl rfl 69 rfl ?_
      refine g_lv [some (.ref (b 0)), some (.int x1), some (.int x2), some (.int x3), some (.int x4), some (.int x5), some (.int 0)] (lvLe.sm (lvLe.sm (lvLe.sm (lvLe.sm (lvLe.sm (lvLe.sm (lvLe.sm lvLe.nil))))))) ?_
      obtain ⟨v8, hv8, hR⟩ := opt_b hR
      refine k_X4_ill_L69 l g C N_ x1 x2 x4 x5 S N_ x3 0 _ hv8 ?_
      refine g_iload_n C dX4_ill_107 rfl 108 rfl ?_
      refine g_if_ne C dX4_ill_108 hR 121 111 (by decide) rfl (fun c_108 hR => ?_) (fun c_108 hR => ?_)
      · refine g_iload C dX4_ill_121 rfl 123 rfl ?_
        refine g_istore C dX4_ill_123 [_, _, _, _, _, _, _] (Nat.le_of_ble_eq_true rfl) rfl rfl 125 rfl ?_
        refine g_iinc C dX4_ill_125 rfl 1 ic_1 [_, _, _, _, _, _, _] (Nat.le_of_ble_eq_true rfl) rfl rfl 128 rfl ?_
        refine g_goto C dX4_ill_128 55 (by decide) ?_
        refine g_lv [some (.ref (b 0)), some (.int x1), some (.int x2), some (.int v8.1), some (.int x4), some (.int (x5 + 1)), none] (lvLe.sm (lvLe.sm (lvLe.sm (lvLe.sm (lvLe.sm (lvLe.sm (lvLe.nn lvLe.nil))))))) ?_
        exact ih _ _ _ rv_ hR hk
      · refine g_iload C dX4_ill_111 rfl 113 rfl ?_
        refine g_if_ge C dX4_ill_113 hR 121 116 (by decide) rfl (fun c_113 hR => ?_) (fun c_113 hR => ?_)
        · refine g_iload C dX4_ill_121 rfl 123 rfl ?_
          refine g_istore C dX4_ill_123 [_, _, _, _, _, _, _] (Nat.le_of_ble_eq_true rfl) rfl rfl 125 rfl ?_
          refine g_iinc C dX4_ill_125 rfl 1 ic_1 [_, _, _, _, _, _, _] (Nat.le_of_ble_eq_true rfl) rfl rfl 128 rfl ?_
          refine g_goto C dX4_ill_128 55 (by decide) ?_
          refine g_lv [some (.ref (b 0)), some (.int x1), some (.int x2), some (.int v8.1), some (.int x4), some (.int (x5 + 1)), none] (lvLe.sm (lvLe.sm (lvLe.sm (lvLe.sm (lvLe.sm (lvLe.sm (lvLe.nn lvLe.nil))))))) ?_
          exact ih _ _ _ rv_ hR hk
        · refine g_iload C dX4_ill_116 rfl 118 rfl ?_
          refine g_goto C dX4_ill_118 123 (by decide) ?_
          refine g_istore C dX4_ill_123 [_, _, _, _, _, _, _] (Nat.le_of_ble_eq_true rfl) rfl rfl 125 rfl ?_
          refine g_iinc C dX4_ill_125 rfl 1 ic_1 [_, _, _, _, _, _, _] (Nat.le_of_ble_eq_true rfl) rfl rfl 128 rfl ?_
          refine g_goto C dX4_ill_128 55 (by decide) ?_
          refine g_lv [some (.ref (b 0)), some (.int x1), some (.int x2), some (.int v8.1), some (.int x5), some (.int (x5 + 1)), none] (lvLe.sm (lvLe.sm (lvLe.sm (lvLe.sm (lvLe.sm (lvLe.sm (lvLe.nn lvLe.nil))))))) ?_
          exact ih _ _ _ rv_ hR hk
def f_X4_ill (S : (Nat → Nat → Int32) × (Nat → Nat → Int64)) (p0 : Int32) (N_ : Nat) : Option (Int32 × ((Nat → Nat → Int32) × (Nat → Nat → Int64))) :=
  if (b2i (f_X4_isIn p0 0 1)) = 0 then
    (f_X4_no S (-2) N_).bind fun v11 =>
    some (v11.1, v11.2)
  else
    if (S.1 0 0) = 0 then
      (f_X4_no S (-3) N_).bind fun v1 =>
      some (v1.1, v1.2)
    else
      (f_X4_arePairs S N_).bind fun v2 =>
      if (b2i v2) = 0 then
        (f_X4_no S (-3) N_).bind fun v10 =>
        some (v10.1, v10.2)
      else
        (f_X4_ill_L55 S N_ N_ 63 (-9) 0).bind fun v9 =>
        if p0 = 0 then
          some (v9.1, S)
        else
          some (v9.2.1, S)
set_option maxRecDepth 100000 in
set_option maxHeartbeats 4000000 in
theorem k_X4_ill (l : Launch) (g : gE) (b : Nat → Nat) (S : (Nat → Nat → Int32) × (Nat → Nat → Int64)) (p0 : Int32) (N_ : Nat) (R_ : Int32 × ((Nat → Nat → Int32) × (Nat → Nat → Int64))) (hR : f_X4_ill S p0 N_ = some R_) : FnI l g yX4_ill wA_X4_ill { frames := 2, cells := 0, slots := 0, locals := 43 } [.ref (b 0), .int p0] (wM g b S) R_.1 (wM g b R_.2) := by
  refine fEntry (As := [.ref (b 0), .int p0]) (maxL := 7) (ret := (some .int)) (by decide) rfl [some (.ref (b 0)), some (.int p0), none, none, none, none, none] (Nat.le_of_ble_eq_true rfl) (lvInB.to (lvInB.sm (lvInB.sm (lvInB.nn (lvInB.nn (lvInB.nn (lvInB.nn (lvInB.nn lvInB.nil)))))))) ?_
  intro p e s m below meth c A C hr hlocks hname hA
  have C : Cx p s m _ c g A cX4_ill 7 wA_X4_ill RX4 := C
  rw [f_X4_ill] at hR
  refine g_iload_n C dX4_ill_0 rfl 1 rfl ?_
  refine g_iconst C dX4_ill_1 0 ic_0 2 rfl ?_
  refine g_iconst C dX4_ill_2 1 ic_1 3 rfl ?_
  refine g_callIR C (rn_S C (k_X4_isIn l g p0 0 1) (va_cwS 3 C.1.2.2.2.2 (gdS wl_232 wl_230 wl_231 wl_5) rfl rfl rfl hd_X4_isIn.2 ⟨Nat.le_of_ble_eq_true rfl, Nat.le_of_ble_eq_true rfl⟩) [] rfl rfl rfl rfl (Nat.le_of_ble_eq_true rfl) ⟨Nat.zero_le _, Nat.zero_le _⟩ dX4_ill_3) 6 rfl ?_
  refine g_if_ne C dX4_ill_6 hR 14 9 (by decide) rfl (fun c_6 hR => ?_) (fun c_6 hR => ?_)
  · refine g_aload_n C dX4_ill_14 rfl 15 rfl ?_
    refine g_get (v := .int (S.1 0 0)) C (hiC hiA_4) 0 rfl rfl 9 (by decide) (List.mem_cons_of_mem _ wl_239) rfl rfl dX4_ill_15 18 rfl ?_
    refine g_if_eq C dX4_ill_18 hR 28 21 (by decide) rfl (fun c_18 hR => ?_) (fun c_18 hR => ?_)
    · refine g_bipush C dX4_ill_28 (-3) bp_m3 30 rfl ?_
      refine g_goto C dX4_ill_30 34 (by decide) ?_
      refine g_istore_n C dX4_ill_34 [_, _, _, _, _, _, _] (Nat.le_of_ble_eq_true rfl) rfl rfl 35 rfl ?_
      refine g_iload_n C dX4_ill_35 rfl 36 rfl ?_
      refine g_if_eqF C dX4_ill_36 (by decide) 45 39 (by decide) rfl ?_
      refine g_aload_n C dX4_ill_39 rfl 40 rfl ?_
      refine g_iload_n C dX4_ill_40 rfl 41 rfl ?_
      obtain ⟨v1, hv1, hR⟩ := opt_b hR
      refine g_callI C (rn_V C (k_X4_no l g b S (-3) N_ v1 hv1) (cwV 1 C.1.2.2.2.2 (gdV wl_111 wl_108 wl_109 wl_110 wl_5) rfl rfl rfl hd_X4_no ⟨Nat.le_of_ble_eq_true rfl, Nat.le_of_ble_eq_true rfl⟩) 0 rfl rfl _ rg_C rg_n rfl rfl (Nat.le_of_ble_eq_true rfl) ⟨Nat.zero_le _, Nat.zero_le _⟩ dX4_ill_41) (wM g b v1.2) (rg_put (wM_len.trans wM_len.symm)) (rg_len (wM_len.trans wM_len.symm)) 44 rfl ?_
      obtain rfl := Option.some.inj hR
      exact g_iret C hr hlocks hA (by first | (dsimp only; done) | rfl) (by first | (dsimp only; done) | rfl) dX4_ill_44
    · refine g_aload_n C dX4_ill_21 rfl 22 rfl ?_
      obtain ⟨v2, hv2, hR⟩ := opt_b hR
      refine g_callIR C (rn_V C (k_X4_arePairs l g b S N_ v2 hv2) (cwV 0 C.1.2.2.2.2 (gdV wl_893 wl_890 wl_891 wl_892 wl_5) rfl rfl rfl hd_X4_arePairs ⟨Nat.le_of_ble_eq_true rfl, Nat.le_of_ble_eq_true rfl⟩) 0 rfl rfl _ rg_C rg_n rfl rfl (Nat.le_of_ble_eq_true rfl) ⟨Nat.zero_le _, Nat.zero_le _⟩ dX4_ill_22) 25 rfl ?_
      refine g_if_ne C dX4_ill_25 hR 33 28 (by decide) rfl (fun c_25 hR => ?_) (fun c_25 hR => ?_)
      · refine g_iconst C dX4_ill_33 0 ic_0 34 rfl ?_
        refine g_istore_n C dX4_ill_34 [_, _, _, _, _, _, _] (Nat.le_of_ble_eq_true rfl) rfl rfl 35 rfl ?_
        refine g_iload_n C dX4_ill_35 rfl 36 rfl ?_
        refine g_if_eqT C dX4_ill_36 (by decide) 45 (by decide) ?_
        refine g_bipush C dX4_ill_45 63 bp_63 47 rfl ?_
        refine g_istore_n C dX4_ill_47 [_, _, _, _, _, _, _] (Nat.le_of_ble_eq_true rfl) rfl rfl 48 rfl ?_
        refine g_bipush C dX4_ill_48 (-9) bp_m9 50 rfl ?_
        refine g_istore C dX4_ill_50 [_, _, _, _, _, _, _] (Nat.le_of_ble_eq_true rfl) rfl rfl 52 rfl ?_
        refine g_iconst C dX4_ill_52 0 ic_0 53 rfl ?_
        refine g_istore C dX4_ill_53 [_, _, _, _, _, _, _] (Nat.le_of_ble_eq_true rfl) rfl rfl 55 rfl ?_
        refine g_lv [some (.ref (b 0)), some (.int p0), some (.int 0), some (.int 63), some (.int (-9)), some (.int 0), none] (lvLe.sm (lvLe.sm (lvLe.sm (lvLe.sm (lvLe.sm (lvLe.sm (lvLe.nn lvLe.nil))))))) ?_
        obtain ⟨v9, hv9, hR⟩ := opt_b hR
        refine k_X4_ill_L55 l g C N_ p0 0 S N_ 63 (-9) 0 _ hv9 ?_
        refine g_iload_n C dX4_ill_131 rfl 132 rfl ?_
        refine g_if_ne C dX4_ill_132 hR 139 135 (by decide) rfl (fun c_132 hR => ?_) (fun c_132 hR => ?_)
        · refine g_iload C dX4_ill_139 rfl 141 rfl ?_
          obtain rfl := Option.some.inj hR
          exact g_iret C hr hlocks hA (by first | (dsimp only; done) | rfl) (by first | (dsimp only; done) | rfl) dX4_ill_141
        · refine g_iload_n C dX4_ill_135 rfl 136 rfl ?_
          refine g_goto C dX4_ill_136 141 (by decide) ?_
          obtain rfl := Option.some.inj hR
          exact g_iret C hr hlocks hA (by first | (dsimp only; done) | rfl) (by first | (dsimp only; done) | rfl) dX4_ill_141
      · refine g_bipush C dX4_ill_28 (-3) bp_m3 30 rfl ?_
        refine g_goto C dX4_ill_30 34 (by decide) ?_
        refine g_istore_n C dX4_ill_34 [_, _, _, _, _, _, _] (Nat.le_of_ble_eq_true rfl) rfl rfl 35 rfl ?_
        refine g_iload_n C dX4_ill_35 rfl 36 rfl ?_
        refine g_if_eqF C dX4_ill_36 (by decide) 45 39 (by decide) rfl ?_
        refine g_aload_n C dX4_ill_39 rfl 40 rfl ?_
        refine g_iload_n C dX4_ill_40 rfl 41 rfl ?_
        obtain ⟨v10, hv10, hR⟩ := opt_b hR
        refine g_callI C (rn_V C (k_X4_no l g b S (-3) N_ v10 hv10) (cwV 1 C.1.2.2.2.2 (gdV wl_111 wl_108 wl_109 wl_110 wl_5) rfl rfl rfl hd_X4_no ⟨Nat.le_of_ble_eq_true rfl, Nat.le_of_ble_eq_true rfl⟩) 0 rfl rfl _ rg_C rg_n rfl rfl (Nat.le_of_ble_eq_true rfl) ⟨Nat.zero_le _, Nat.zero_le _⟩ dX4_ill_41) (wM g b v10.2) (rg_put (wM_len.trans wM_len.symm)) (rg_len (wM_len.trans wM_len.symm)) 44 rfl ?_
        obtain rfl := Option.some.inj hR
        exact g_iret C hr hlocks hA (by first | (dsimp only; done) | rfl) (by first | (dsimp only; done) | rfl) dX4_ill_44
  · refine g_bipush C dX4_ill_9 (-2) bp_m2 11 rfl ?_
    refine g_goto C dX4_ill_11 34 (by decide) ?_
    refine g_istore_n C dX4_ill_34 [_, _, _, _, _, _, _] (Nat.le_of_ble_eq_true rfl) rfl rfl 35 rfl ?_
    refine g_iload_n C dX4_ill_35 rfl 36 rfl ?_
    refine g_if_eqF C dX4_ill_36 (by decide) 45 39 (by decide) rfl ?_
    refine g_aload_n C dX4_ill_39 rfl 40 rfl ?_
    refine g_iload_n C dX4_ill_40 rfl 41 rfl ?_
    obtain ⟨v11, hv11, hR⟩ := opt_b hR
    refine g_callI C (rn_V C (k_X4_no l g b S (-2) N_ v11 hv11) (cwV 1 C.1.2.2.2.2 (gdV wl_111 wl_108 wl_109 wl_110 wl_5) rfl rfl rfl hd_X4_no ⟨Nat.le_of_ble_eq_true rfl, Nat.le_of_ble_eq_true rfl⟩) 0 rfl rfl _ rg_C rg_n rfl rfl (Nat.le_of_ble_eq_true rfl) ⟨Nat.zero_le _, Nat.zero_le _⟩ dX4_ill_41) (wM g b v11.2) (rg_put (wM_len.trans wM_len.symm)) (rg_len (wM_len.trans wM_len.symm)) 44 rfl ?_
    obtain rfl := Option.some.inj hR
    exact g_iret C hr hlocks hA (by first | (dsimp only; done) | rfl) (by first | (dsimp only; done) | rfl) dX4_ill_44
theorem hd_X4_row : yX4_row.cls = RX4 ∧ yX4_row.cls ≠ "java/lang/invoke/MethodHandle" ∧ yX4_row.cls ≠ "java/lang/invoke/VarHandle" ∧ (parseMethodDescriptor yX4_row.desc).map (fun d => d.parameters.length) = some 1 := by decide +kernel
def f_X4_row (S : (Nat → Nat → Int32) × (Nat → Nat → Int64)) (p0 : Int32) (N_ : Nat) : Option (Int32 × ((Nat → Nat → Int32) × (Nat → Nat → Int64))) :=
  if (f_X4_bound p0 0 99) = 0 then
    if (S.1 0 11) = 12 then
      (f_X4_no S (-6) N_).bind fun v2 =>
      some (v2.1, v2.2)
    else
      if (S.1 0 11) < 0 ∨ 12 ≤ (Int32.toNatClampNeg (S.1 0 11)) then none else
      some (((S.1 0 11) + 1), ((kS (kS S.1 0 (upd (S.1 0) 11 ((S.1 0 11) + 1))) 15 (upd (S.1 15) (Int32.toNatClampNeg (S.1 0 11)) p0)), S.2))
  else
    (f_X4_no S (f_X4_bound p0 0 99) N_).bind fun v1 =>
    some (v1.1, v1.2)
set_option maxRecDepth 100000 in
set_option maxHeartbeats 4000000 in
theorem k_X4_row (l : Launch) (g : gE) (b : Nat → Nat) (S : (Nat → Nat → Int32) × (Nat → Nat → Int64)) (p0 : Int32) (N_ : Nat) (R_ : Int32 × ((Nat → Nat → Int32) × (Nat → Nat → Int64))) (hR : f_X4_row S p0 N_ = some R_) : FnI l g yX4_row wA_X4_row { frames := 1, cells := 0, slots := 0, locals := 22 } [.ref (b 0), .int p0] (wM g b S) R_.1 (wM g b R_.2) := by
  refine fEntry (As := [.ref (b 0), .int p0]) (maxL := 3) (ret := (some .int)) (by decide) rfl [some (.ref (b 0)), some (.int p0), none] (Nat.le_of_ble_eq_true rfl) (lvInB.to (lvInB.sm (lvInB.sm (lvInB.nn lvInB.nil)))) ?_
  intro p e s m below meth c A C hr hlocks hname hA
  have C : Cx p s m _ c g A cX4_row 3 wA_X4_row RX4 := C
  rw [f_X4_row] at hR
  refine g_iload_n C dX4_row_0 rfl 1 rfl ?_
  refine g_iconst C dX4_row_1 0 ic_0 2 rfl ?_
  refine g_bipush C dX4_row_2 99 bp_99 4 rfl ?_
  refine g_callIR C (rn_S C (k_X4_bound l g p0 0 99) (va_cwS 3 C.1.2.2.2.2 (gdS wl_107 wl_105 wl_106 wl_5) rfl rfl rfl hd_X4_bound.2 ⟨Nat.le_of_ble_eq_true rfl, Nat.le_of_ble_eq_true rfl⟩) [] rfl rfl rfl rfl (Nat.le_of_ble_eq_true rfl) ⟨Nat.zero_le _, Nat.zero_le _⟩ dX4_row_4) 7 rfl ?_
  refine g_istore_n C dX4_row_7 [_, _, _] (Nat.le_of_ble_eq_true rfl) rfl rfl 8 rfl ?_
  refine g_iload_n C dX4_row_8 rfl 9 rfl ?_
  refine g_if_ne C dX4_row_9 hR 24 12 (by decide) rfl (fun c_9 hR => ?_) (fun c_9 hR => ?_)
  · refine g_iload_n C dX4_row_24 rfl 25 rfl ?_
    refine g_if_eqF C dX4_row_25 c_9 34 28 (by decide) rfl ?_
    refine g_aload_n C dX4_row_28 rfl 29 rfl ?_
    refine g_iload_n C dX4_row_29 rfl 30 rfl ?_
    obtain ⟨v1, hv1, hR⟩ := opt_b hR
    refine g_callI C (rn_V C (k_X4_no l g b S (f_X4_bound p0 0 99) N_ v1 hv1) (cwV 1 C.1.2.2.2.2 (gdV wl_111 wl_108 wl_109 wl_110 wl_5) rfl rfl rfl hd_X4_no ⟨Nat.le_of_ble_eq_true rfl, Nat.le_of_ble_eq_true rfl⟩) 0 rfl rfl _ rg_C rg_n rfl rfl (Nat.le_of_ble_eq_true rfl) ⟨Nat.zero_le _, Nat.zero_le _⟩ dX4_row_30) (wM g b v1.2) (rg_put (wM_len.trans wM_len.symm)) (rg_len (wM_len.trans wM_len.symm)) 33 rfl ?_
    obtain rfl := Option.some.inj hR
    exact g_iret C hr hlocks hA (by first | (dsimp only; done) | rfl) (by first | (dsimp only; done) | rfl) dX4_row_33
  · refine g_aload_n C dX4_row_12 rfl 13 rfl ?_
    refine g_get (v := .int (S.1 0 11)) C (hiC hiA_4) 0 rfl rfl 30 (by decide) (List.mem_cons_of_mem _ wl_812) rfl rfl dX4_row_13 16 rfl ?_
    refine g_bipush C dX4_row_16 12 bp_12 18 rfl ?_
    refine g_icmp_ne C dX4_row_18 hR 24 21 (by decide) rfl (fun c_18 hR => ?_) (fun c_18 hR => ?_)
    · refine g_iload_n C dX4_row_24 rfl 25 rfl ?_
      refine g_if_eqT C dX4_row_25 c_9 34 (by decide) ?_
      refine g_aload_n C dX4_row_34 rfl 35 rfl ?_
      refine g_get (v := .ref (b 15)) C (hiC hiA_4) 0 rfl rfl 28 (by decide) (List.mem_cons_of_mem _ wl_83) rfl rfl dX4_row_35 38 rfl ?_
      refine g_aload_n C dX4_row_38 rfl 39 rfl ?_
      refine g_get (v := .int (S.1 0 11)) C (hiC hiA_4) 0 rfl rfl 30 (by decide) (List.mem_cons_of_mem _ wl_812) rfl rfl dX4_row_39 42 rfl ?_
      refine g_iload_n C dX4_row_42 rfl 43 rfl ?_
      obtain ⟨h_43, hR⟩ := opt_n hR
      refine g_iast (f := (S.1 15)) C 15 rfl h_43 dX4_row_43 (wMr g b (S.1 0 0) (S.1 0 1) (S.1 0 2) (S.1 0 3) (S.1 0 4) (S.1 0 5) (S.1 0 6) (S.1 0 7) (S.1 0 8) (S.1 0 9) (S.1 0 10) (S.1 0 11) (S.1 0 12) (S.1 0 13) (S.1 0 14) (S.1 1) (S.1 2) (S.1 3) (S.1 4) (S.1 5) (S.1 6) (S.1 7) (S.1 8) (S.1 9) (S.1 10) (S.1 11) (S.1 12) (S.1 13) (S.1 14) (upd (S.1 15) (Int32.toNatClampNeg (S.1 0 11)) p0) (S.1 16) (S.2 0) (S.2 1) (S.2 2)) rfl 44 rfl ?_
      refine g_aload_n C dX4_row_44 rfl 45 rfl ?_
      refine g_dup C dX4_row_45 rfl 46 rfl ?_
      refine g_get (v := .int (S.1 0 11)) C (hiC hiA_4) 0 rfl rfl 30 (by decide) (List.mem_cons_of_mem _ wl_812) rfl rfl dX4_row_46 49 rfl ?_
      refine g_iconst C dX4_row_49 1 ic_1 50 rfl ?_
      refine g_iadd C dX4_row_50 51 rfl ?_
      refine g_put C (hiC hiA_4) tyX4 tyX4_ok nmX4 0 rfl rfl 30 (by decide) (List.mem_cons_of_mem _ wl_812) rfl rfl rfl rfl (Nat.le_of_ble_eq_true rfl) dX4_row_51 (wMr g b (S.1 0 0) (S.1 0 1) (S.1 0 2) (S.1 0 3) (S.1 0 4) (S.1 0 5) (S.1 0 6) (S.1 0 7) (S.1 0 8) (S.1 0 9) (S.1 0 10) ((S.1 0 11) + 1) (S.1 0 12) (S.1 0 13) (S.1 0 14) (S.1 1) (S.1 2) (S.1 3) (S.1 4) (S.1 5) (S.1 6) (S.1 7) (S.1 8) (S.1 9) (S.1 10) (S.1 11) (S.1 12) (S.1 13) (S.1 14) (upd (S.1 15) (Int32.toNatClampNeg (S.1 0 11)) p0) (S.1 16) (S.2 0) (S.2 1) (S.2 2)) rfl 54 rfl ?_
      refine g_aload_n C dX4_row_54 rfl 55 rfl ?_
      refine g_get (v := .int ((S.1 0 11) + 1)) C (hiC hiA_4) 0 rfl rfl 30 (by decide) (List.mem_cons_of_mem _ wl_812) rfl rfl dX4_row_55 58 rfl ?_
      obtain rfl := Option.some.inj hR
      exact g_iret C hr hlocks hA (by first | (dsimp only; done) | rfl) (by first | (dsimp only; done) | rfl) dX4_row_58
    · refine g_bipush C dX4_row_21 (-6) bp_m6 23 rfl ?_
      refine g_istore_n C dX4_row_23 [_, _, _] (Nat.le_of_ble_eq_true rfl) rfl rfl 24 rfl ?_
      refine g_iload_n C dX4_row_24 rfl 25 rfl ?_
      refine g_if_eqF C dX4_row_25 (by decide) 34 28 (by decide) rfl ?_
      refine g_aload_n C dX4_row_28 rfl 29 rfl ?_
      refine g_iload_n C dX4_row_29 rfl 30 rfl ?_
      obtain ⟨v2, hv2, hR⟩ := opt_b hR
      refine g_callI C (rn_V C (k_X4_no l g b S (-6) N_ v2 hv2) (cwV 1 C.1.2.2.2.2 (gdV wl_111 wl_108 wl_109 wl_110 wl_5) rfl rfl rfl hd_X4_no ⟨Nat.le_of_ble_eq_true rfl, Nat.le_of_ble_eq_true rfl⟩) 0 rfl rfl _ rg_C rg_n rfl rfl (Nat.le_of_ble_eq_true rfl) ⟨Nat.zero_le _, Nat.zero_le _⟩ dX4_row_30) (wM g b v2.2) (rg_put (wM_len.trans wM_len.symm)) (rg_len (wM_len.trans wM_len.symm)) 33 rfl ?_
      obtain rfl := Option.some.inj hR
      exact g_iret C hr hlocks hA (by first | (dsimp only; done) | rfl) (by first | (dsimp only; done) | rfl) dX4_row_33
theorem hd_X4_judge : yX4_judge.cls = RX4 ∧ yX4_judge.cls ≠ "java/lang/invoke/MethodHandle" ∧ yX4_judge.cls ≠ "java/lang/invoke/VarHandle" ∧ (parseMethodDescriptor yX4_judge.desc).map (fun d => d.parameters.length) = some 0 := by decide +kernel
def f_X4_judge_L26 (x1 : Int32) (S : (Nat → Nat → Int32) × (Nat → Nat → Int64)) (N_ : Nat) : Nat → Int32 → Option ((Int32 × ((Nat → Nat → Int32) × (Nat → Nat → Int64))) ⊕ (Int32))
  | 0, _ => none
  | n_ + 1, x2 =>
    if x1 ≤ x2 then
      some (.inr x2)
    else
      if (S.1 0 1) < 0 ∨ 5 ≤ (Int32.toNatClampNeg (S.1 0 1)) then none else
      if (S.1 0 1) < 0 ∨ 5 ≤ (Int32.toNatClampNeg (S.1 0 1)) then none else
      if x2 < 0 ∨ 12 ≤ (Int32.toNatClampNeg x2) then none else
      if (f_X4_stageAt (f_X4_heldPoints (((S.1 5) (Int32.toNatClampNeg (S.1 0 1))) + ((24 * x2) * (f_X4_coldOf ((S.1 2) (Int32.toNatClampNeg (S.1 0 1)))))))) = ((S.1 15) (Int32.toNatClampNeg x2)) then
        f_X4_judge_L26 x1 S N_ n_ (x2 + 1)
      else
        some (.inl (x2, S))
set_option maxRecDepth 100000 in
set_option maxHeartbeats 4000000 in
theorem k_X4_judge_L26 (l : Launch) (g : gE) {p : Program} {e : Env} {s : State} {m : MethodId} {args : Array Value} {below : List Frame} {meth : Method} {c : Code} {Q : State → Prop} {A : Nat → Prop} {wc0 : va_W} {b : Nat → Nat}  (C : Cx p s m args c g A cX4_judge 3 wA_X4_judge RX4) (hr : meth.sig.returnType = some .int) (hlocks : meth.locks = false) (hA : va_A wc0 s.heap.size = A) (N_ : Nat) (x1 : Int32) (S : (Nat → Nat → Int32) × (Nat → Nat → Int64)) : ∀ (n_ : Nat) (x2 : Int32) (rv_ : (Int32 × ((Nat → Nat → Int32) × (Nat → Nat → Int64))) ⊕ (Int32)), f_X4_judge_L26 x1 S N_ n_ x2 = some rv_ → (∀ v_, rv_ = .inr v_ → Gm p l e (headSpec wA_X4_judge ({ frames := 1, cells := 0, slots := 0, locals := 21 } : Room)).room s m args below meth c Q g A 3 0 0 (wM g b S) [some (.ref (b 0)), some (.int x1), some (.int v_)] [] 81) → (∀ r_, rv_ = .inl r_ → Q = MQ below (qI g wc0 r_.1 (wM g b r_.2) s.heap.size) args s 0 0 A) → Gm p l e (headSpec wA_X4_judge ({ frames := 1, cells := 0, slots := 0, locals := 21 } : Room)).room s m args below meth c Q g A 3 0 0 (wM g b S) [some (.ref (b 0)), some (.int x1), some (.int x2)] [] 26 := by
  intro n_
  induction n_ with
  | zero =>
    intro x2 rv_ hR
    simp [f_X4_judge_L26] at hR
  | succ n_ ih =>
    intro x2 rv_ hR hk hq
    rw [f_X4_judge_L26] at hR
    refine g_iload_n C dX4_judge_26 rfl 27 rfl ?_
    refine g_iload_n C dX4_judge_27 rfl 28 rfl ?_
    refine g_icmp_ge C dX4_judge_28 hR 81 31 (by decide) rfl (fun c_28 hR => ?_) (fun c_28 hR => ?_)
    · obtain rfl := Option.some.inj hR
      refine g_lv [some (.ref (b 0)), some (.int x1), some (.int x2)] (lvLe.sm (lvLe.sm (lvLe.sm lvLe.nil))) ?_
      exact hk _ rfl
    · refine g_aload_n C dX4_judge_31 rfl 32 rfl ?_
      refine g_get (v := .ref (b 5)) C (hiC hiA_4) 0 rfl rfl 4 (by decide) (List.mem_cons_of_mem _ wl_70) rfl rfl dX4_judge_32 35 rfl ?_
      refine g_aload_n C dX4_judge_35 rfl 36 rfl ?_
      refine g_get (v := .int (S.1 0 1)) C (hiC hiA_4) 0 rfl rfl 10 (by decide) (List.mem_cons_of_mem _ wl_240) rfl rfl dX4_judge_36 39 rfl ?_
      obtain ⟨h_39, hR⟩ := opt_n hR
      refine g_iald (f := (S.1 5)) C 5 rfl h_39 dX4_judge_39 40 rfl ?_
      refine g_bipush C dX4_judge_40 24 bp_24 42 rfl ?_
      refine g_iload_n C dX4_judge_42 rfl 43 rfl ?_
      refine g_imul C dX4_judge_43 44 rfl ?_
      refine g_aload_n C dX4_judge_44 rfl 45 rfl ?_
      refine g_get (v := .ref (b 2)) C (hiC hiA_4) 0 rfl rfl 1 (by decide) (List.mem_cons_of_mem _ wl_67) rfl rfl dX4_judge_45 48 rfl ?_
      refine g_aload_n C dX4_judge_48 rfl 49 rfl ?_
      refine g_get (v := .int (S.1 0 1)) C (hiC hiA_4) 0 rfl rfl 10 (by decide) (List.mem_cons_of_mem _ wl_240) rfl rfl dX4_judge_49 52 rfl ?_
      obtain ⟨h_52, hR⟩ := opt_n hR
      refine g_iald (f := (S.1 2)) C 2 rfl h_52 dX4_judge_52 53 rfl ?_
      refine g_callIR C (rn_S C (k_X4_coldOf l g ((S.1 2) (Int32.toNatClampNeg (S.1 0 1)))) (va_cwS 1 C.1.2.2.2.2 (gdS wl_265 wl_263 wl_264 wl_5) rfl rfl rfl hd_X4_coldOf.2 ⟨Nat.le_of_ble_eq_true rfl, Nat.le_of_ble_eq_true rfl⟩) [] rfl rfl rfl rfl (Nat.le_of_ble_eq_true rfl) ⟨Nat.zero_le _, Nat.zero_le _⟩ dX4_judge_53) 56 rfl ?_
      refine g_imul C dX4_judge_56 57 rfl ?_
      refine g_iadd C dX4_judge_57 58 rfl ?_
      refine g_callIR C (rn_S C (k_X4_heldPoints l g (((S.1 5) (Int32.toNatClampNeg (S.1 0 1))) + ((24 * x2) * (f_X4_coldOf ((S.1 2) (Int32.toNatClampNeg (S.1 0 1))))))) (va_cwS 1 C.1.2.2.2.2 (gdS wl_272 wl_270 wl_271 wl_5) rfl rfl rfl hd_X4_heldPoints.2 ⟨Nat.le_of_ble_eq_true rfl, Nat.le_of_ble_eq_true rfl⟩) [] rfl rfl rfl rfl (Nat.le_of_ble_eq_true rfl) ⟨Nat.zero_le _, Nat.zero_le _⟩ dX4_judge_58) 61 rfl ?_
      refine g_callIR C (rn_S C (k_X4_stageAt l g (f_X4_heldPoints (((S.1 5) (Int32.toNatClampNeg (S.1 0 1))) + ((24 * x2) * (f_X4_coldOf ((S.1 2) (Int32.toNatClampNeg (S.1 0 1)))))))) (va_cwS 1 C.1.2.2.2.2 (gdS wl_314 wl_312 wl_313 wl_5) rfl rfl rfl hd_X4_stageAt.2 ⟨Nat.le_of_ble_eq_true rfl, Nat.le_of_ble_eq_true rfl⟩) [] rfl rfl rfl rfl (Nat.le_of_ble_eq_true rfl) ⟨Nat.zero_le _, Nat.zero_le _⟩ dX4_judge_61) 64 rfl ?_
      refine g_aload_n C dX4_judge_64 rfl 65 rfl ?_
      refine g_get (v := .ref (b 15)) C (hiC hiA_4) 0 rfl rfl 28 (by decide) (List.mem_cons_of_mem _ wl_83) rfl rfl dX4_judge_65 68 rfl ?_
      refine g_iload_n C dX4_judge_68 rfl 69 rfl ?_
      obtain ⟨h_69, hR⟩ := opt_n hR
      refine g_iald (f := (S.1 15)) C 15 rfl h_69 dX4_judge_69 70 rfl ?_
      refine g_icmp_eq C dX4_judge_70 hR 75 73 (by decide) rfl (fun c_70 hR => ?_) (fun c_70 hR => ?_)
      · refine g_iinc C dX4_judge_75 rfl 1 ic_1 [_, _, _] (Nat.le_of_ble_eq_true rfl) rfl rfl 78 rfl ?_
        refine g_goto C dX4_judge_78 26 (by decide) ?_
        refine g_lv [some (.ref (b 0)), some (.int x1), some (.int (x2 + 1))] (lvLe.sm (lvLe.sm (lvLe.sm lvLe.nil))) ?_
        exact ih _ rv_ hR hk hq
      · refine g_iload_n C dX4_judge_73 rfl 74 rfl ?_
        obtain rfl := Option.some.inj hR
        rw [hq _ rfl]
        exact g_iret C hr hlocks hA (by first | (dsimp only; done) | rfl) (by first | (dsimp only; done) | rfl) dX4_judge_74
def f_X4_judge (S : (Nat → Nat → Int32) × (Nat → Nat → Int64)) (N_ : Nat) : Option (Int32 × ((Nat → Nat → Int32) × (Nat → Nat → Int64))) :=
  if (S.1 0 0) = 0 then
    (f_X4_no S (-3) N_).bind fun v3 =>
    some (v3.1, v3.2)
  else
    (f_X4_judge_L26 (S.1 0 11) ((kS S.1 0 (upd (S.1 0) 11 0)), S.2) N_ N_ 0).bind fun v1 =>
      match v1 with
      | .inl r => some r
      | .inr v2 =>
        some ((-9), ((kS S.1 0 (upd (S.1 0) 11 0)), S.2))
set_option maxRecDepth 100000 in
set_option maxHeartbeats 4000000 in
theorem k_X4_judge (l : Launch) (g : gE) (b : Nat → Nat) (S : (Nat → Nat → Int32) × (Nat → Nat → Int64)) (N_ : Nat) (R_ : Int32 × ((Nat → Nat → Int32) × (Nat → Nat → Int64))) (hR : f_X4_judge S N_ = some R_) : FnI l g yX4_judge wA_X4_judge { frames := 1, cells := 0, slots := 0, locals := 21 } [.ref (b 0)] (wM g b S) R_.1 (wM g b R_.2) := by
  refine fEntry (As := [.ref (b 0)]) (maxL := 3) (ret := (some .int)) (by decide) rfl [some (.ref (b 0)), none, none] (Nat.le_of_ble_eq_true rfl) (lvInB.to (lvInB.sm (lvInB.nn (lvInB.nn lvInB.nil)))) ?_
  intro p e s m below meth c A C hr hlocks hname hA
  have C : Cx p s m _ c g A cX4_judge 3 wA_X4_judge RX4 := C
  rw [f_X4_judge] at hR
  refine g_aload_n C dX4_judge_0 rfl 1 rfl ?_
  refine g_get (v := .int (S.1 0 0)) C (hiC hiA_4) 0 rfl rfl 9 (by decide) (List.mem_cons_of_mem _ wl_239) rfl rfl dX4_judge_1 4 rfl ?_
  refine g_if_ne C dX4_judge_4 hR 14 7 (by decide) rfl (fun c_4 hR => ?_) (fun c_4 hR => ?_)
  · refine g_aload_n C dX4_judge_14 rfl 15 rfl ?_
    refine g_get (v := .int (S.1 0 11)) C (hiC hiA_4) 0 rfl rfl 30 (by decide) (List.mem_cons_of_mem _ wl_812) rfl rfl dX4_judge_15 18 rfl ?_
    refine g_istore_n C dX4_judge_18 [_, _, _] (Nat.le_of_ble_eq_true rfl) rfl rfl 19 rfl ?_
    refine g_aload_n C dX4_judge_19 rfl 20 rfl ?_
    refine g_iconst C dX4_judge_20 0 ic_0 21 rfl ?_
    refine g_put C (hiC hiA_4) tyX4 tyX4_ok nmX4 0 rfl rfl 30 (by decide) (List.mem_cons_of_mem _ wl_812) rfl rfl rfl rfl (Nat.le_of_ble_eq_true rfl) dX4_judge_21 (wMr g b (S.1 0 0) (S.1 0 1) (S.1 0 2) (S.1 0 3) (S.1 0 4) (S.1 0 5) (S.1 0 6) (S.1 0 7) (S.1 0 8) (S.1 0 9) (S.1 0 10) 0 (S.1 0 12) (S.1 0 13) (S.1 0 14) (S.1 1) (S.1 2) (S.1 3) (S.1 4) (S.1 5) (S.1 6) (S.1 7) (S.1 8) (S.1 9) (S.1 10) (S.1 11) (S.1 12) (S.1 13) (S.1 14) (S.1 15) (S.1 16) (S.2 0) (S.2 1) (S.2 2)) rfl 24 rfl ?_
    refine g_iconst C dX4_judge_24 0 ic_0 25 rfl ?_
    refine g_istore_n C dX4_judge_25 [_, _, _] (Nat.le_of_ble_eq_true rfl) rfl rfl 26 rfl ?_
    refine g_lv [some (.ref (b 0)), some (.int (S.1 0 11)), some (.int 0)] (lvLe.sm (lvLe.sm (lvLe.sm lvLe.nil))) ?_
    obtain ⟨v1, hv1, hR⟩ := opt_b hR
    rcases v1 with r_ | v2
    · refine k_X4_judge_L26 l g C hr hlocks hA N_ (S.1 0 11) ((kS S.1 0 (upd (S.1 0) 11 0)), S.2) N_ 0 _ hv1 (fun _ h => nomatch h) (fun r h => ?_)
      cases h
      obtain rfl := Option.some.inj hR
      rfl
    · refine k_X4_judge_L26 l g C hr hlocks hA N_ (S.1 0 11) ((kS S.1 0 (upd (S.1 0) 11 0)), S.2) N_ 0 _ hv1 (fun _ h => ?_) (fun _ h => nomatch h)
      cases h
      refine g_bipush C dX4_judge_81 (-9) bp_m9 83 rfl ?_
      obtain rfl := Option.some.inj hR
      exact g_iret C hr hlocks hA (by first | (dsimp only; done) | rfl) (by first | (dsimp only; done) | rfl) dX4_judge_83
  · refine g_aload_n C dX4_judge_7 rfl 8 rfl ?_
    refine g_bipush C dX4_judge_8 (-3) bp_m3 10 rfl ?_
    obtain ⟨v3, hv3, hR⟩ := opt_b hR
    refine g_callI C (rn_V C (k_X4_no l g b S (-3) N_ v3 hv3) (cwV 1 C.1.2.2.2.2 (gdV wl_111 wl_108 wl_109 wl_110 wl_5) rfl rfl rfl hd_X4_no ⟨Nat.le_of_ble_eq_true rfl, Nat.le_of_ble_eq_true rfl⟩) 0 rfl rfl _ rg_C rg_n rfl rfl (Nat.le_of_ble_eq_true rfl) ⟨Nat.zero_le _, Nat.zero_le _⟩ dX4_judge_10) (wM g b v3.2) (rg_put (wM_len.trans wM_len.symm)) (rg_len (wM_len.trans wM_len.symm)) 13 rfl ?_
    obtain rfl := Option.some.inj hR
    exact g_iret C hr hlocks hA (by first | (dsimp only; done) | rfl) (by first | (dsimp only; done) | rfl) dX4_judge_13
theorem hd_X4_clear : yX4_clear.cls = RX4 ∧ yX4_clear.cls ≠ "java/lang/invoke/MethodHandle" ∧ yX4_clear.cls ≠ "java/lang/invoke/VarHandle" ∧ (parseMethodDescriptor yX4_clear.desc).map (fun d => d.parameters.length) = some 0 := by decide +kernel
def f_X4_clear (S : (Nat → Nat → Int32) × (Nat → Nat → Int64)) : Int32 × ((Nat → Nat → Int32) × (Nat → Nat → Int64)) :=
  ((S.1 0 11), ((kS S.1 0 (upd (S.1 0) 11 0)), S.2))
set_option maxRecDepth 100000 in
set_option maxHeartbeats 4000000 in
theorem k_X4_clear (l : Launch) (g : gE) (b : Nat → Nat) (S : (Nat → Nat → Int32) × (Nat → Nat → Int64)) : FnI l g yX4_clear wA_X4_clear { frames := 0, cells := 0, slots := 0, locals := 0 } [.ref (b 0)] (wM g b S) ((f_X4_clear S).1) (wM g b ((f_X4_clear S).2)) := by
  generalize hR : f_X4_clear S = R_
  refine fEntry (As := [.ref (b 0)]) (maxL := 2) (ret := (some .int)) (by decide) rfl [some (.ref (b 0)), none] (Nat.le_of_ble_eq_true rfl) (lvInB.to (lvInB.sm (lvInB.nn lvInB.nil))) ?_
  intro p e s m below meth c A C hr hlocks hname hA
  have C : Cx p s m _ c g A cX4_clear 2 wA_X4_clear RX4 := C
  rw [f_X4_clear] at hR
  refine g_aload_n C dX4_clear_0 rfl 1 rfl ?_
  refine g_get (v := .int (S.1 0 11)) C (hiC hiA_4) 0 rfl rfl 30 (by decide) (List.mem_cons_of_mem _ wl_812) rfl rfl dX4_clear_1 4 rfl ?_
  refine g_istore_n C dX4_clear_4 [_, _] (Nat.le_of_ble_eq_true rfl) rfl rfl 5 rfl ?_
  refine g_aload_n C dX4_clear_5 rfl 6 rfl ?_
  refine g_iconst C dX4_clear_6 0 ic_0 7 rfl ?_
  refine g_put C (hiC hiA_4) tyX4 tyX4_ok nmX4 0 rfl rfl 30 (by decide) (List.mem_cons_of_mem _ wl_812) rfl rfl rfl rfl (Nat.le_of_ble_eq_true rfl) dX4_clear_7 (wMr g b (S.1 0 0) (S.1 0 1) (S.1 0 2) (S.1 0 3) (S.1 0 4) (S.1 0 5) (S.1 0 6) (S.1 0 7) (S.1 0 8) (S.1 0 9) (S.1 0 10) 0 (S.1 0 12) (S.1 0 13) (S.1 0 14) (S.1 1) (S.1 2) (S.1 3) (S.1 4) (S.1 5) (S.1 6) (S.1 7) (S.1 8) (S.1 9) (S.1 10) (S.1 11) (S.1 12) (S.1 13) (S.1 14) (S.1 15) (S.1 16) (S.2 0) (S.2 1) (S.2 2)) rfl 10 rfl ?_
  refine g_iload_n C dX4_clear_10 rfl 11 rfl ?_
  subst hR
  exact g_iret C hr hlocks hA (by first | (dsimp only; done) | rfl) (by first | (dsimp only; done) | rfl) dX4_clear_11
theorem hd_X4_goesWeek : yX4_goesWeek.cls = RX4 ∧ yX4_goesWeek.cls ≠ "java/lang/invoke/MethodHandle" ∧ yX4_goesWeek.cls ≠ "java/lang/invoke/VarHandle" ∧ (parseMethodDescriptor yX4_goesWeek.desc).map (fun d => d.parameters.length) = some 1 := by decide +kernel
def f_X4_goesWeek_L7 (x1 : Int32) (x2 : Int32) (N_ : Nat) : Nat → Int32 → ((Nat → Nat → Int32) × (Nat → Nat → Int64)) → Option (Int32 × ((Nat → Nat → Int32) × (Nat → Nat → Int64)))
  | 0, _, _ => none
  | n_ + 1, x3, S =>
    if 7 ≤ x3 then
      some (x3, S)
    else
      (some (((((((S.1 0 14) * 1103515245) + 12345) &&& 2147483647) / 65536) - (((((S.1 0 14) * 1103515245) + 12345) &&& 2147483647) / 65536) / 7 * 7) : Int32)).bind fun v11 =>
      (f_X4_warmOf ((kS S.1 0 (upd (S.1 0) 14 (((S.1 0 14) * 1103515245) + 12345))), S.2) x2 N_).bind fun v12 =>
      (f_X4_gains ((kS S.1 0 (upd (S.1 0) 14 (((S.1 0 14) * 1103515245) + 12345))), S.2) x2 (v12 * v11) N_).bind fun v13 =>
      if x2 < 0 ∨ 5 ≤ (Int32.toNatClampNeg x2) then none else
      (f_X4_gains v13 x2 ((f_X4_coldOf ((v13.1 2) (Int32.toNatClampNeg x2))) * (24 - v11)) N_).bind fun v14 =>
      (f_X4_useBy v14 x2 4 x1 N_).bind fun v15 =>
      if v15.1 = 0 then
        f_X4_goesWeek_L7 x1 x2 N_ n_ (x3 + 1) ((kS v15.2.1 0 (upd (v15.2.1 0) 12 v15.1)), v15.2.2)
      else
        some (x3, ((kS v15.2.1 0 (upd (v15.2.1 0) 12 v15.1)), v15.2.2))
set_option maxRecDepth 100000 in
set_option maxHeartbeats 4000000 in
theorem k_X4_goesWeek_L7 (l : Launch) (g : gE) {p : Program} {e : Env} {s : State} {m : MethodId} {args : Array Value} {below : List Frame} {meth : Method} {c : Code} {Q : State → Prop} {A : Nat → Prop} {b : Nat → Nat}  (C : Cx p s m args c g A cX4_goesWeek 5 wA_X4_goesWeek RX4) (N_ : Nat) (x1 : Int32) (x2 : Int32) : ∀ (n_ : Nat) (x3 : Int32) (S : (Nat → Nat → Int32) × (Nat → Nat → Int64)) (rv_ : Int32 × ((Nat → Nat → Int32) × (Nat → Nat → Int64))), f_X4_goesWeek_L7 x1 x2 N_ n_ x3 S = some rv_ → (Gm p l e (headSpec wA_X4_goesWeek ({ frames := 5, cells := 0, slots := 0, locals := 118 } : Room)).room s m args below meth c Q g A 5 0 0 (wM g b rv_.2) [some (.ref (b 0)), some (.int x1), some (.int x2), some (.int rv_.1), none] [] 106) → Gm p l e (headSpec wA_X4_goesWeek ({ frames := 5, cells := 0, slots := 0, locals := 118 } : Room)).room s m args below meth c Q g A 5 0 0 (wM g b S) [some (.ref (b 0)), some (.int x1), some (.int x2), some (.int x3), none] [] 7 := by
  intro n_
  induction n_ with
  | zero =>
    intro x3 S rv_ hR
    simp [f_X4_goesWeek_L7] at hR
  | succ n_ ih =>
    intro x3 S rv_ hR hk
    rw [f_X4_goesWeek_L7] at hR
    refine g_iload_n C dX4_goesWeek_7 rfl 8 rfl ?_
    refine g_bipush C dX4_goesWeek_8 7 bp_7 10 rfl ?_
    refine g_icmp_ge C dX4_goesWeek_10 hR 106 13 (by decide) rfl (fun c_10 hR => ?_) (fun c_10 hR => ?_)
    · obtain rfl := Option.some.inj hR
      refine g_lv [some (.ref (b 0)), some (.int x1), some (.int x2), some (.int x3), none] (lvLe.sm (lvLe.sm (lvLe.sm (lvLe.sm (lvLe.nn lvLe.nil))))) ?_
      exact hk
    · refine g_aload_n C dX4_goesWeek_13 rfl 14 rfl ?_
      refine g_aload_n C dX4_goesWeek_14 rfl 15 rfl ?_
      refine g_get (v := .int (S.1 0 14)) C (hiC hiA_4) 0 rfl rfl 33 (by decide) (List.mem_cons_of_mem _ wl_939) rfl rfl dX4_goesWeek_15 18 rfl ?_
      refine g_ldcw C dX4_goesWeek_18 (C.1.2.2.2.2 _ (List.mem_cons_of_mem _ wl_946)) 21 rfl ?_
      refine g_imul C dX4_goesWeek_21 22 rfl ?_
      refine g_sipush C dX4_goesWeek_22 12345 sp_12345 25 rfl ?_
      refine g_iadd C dX4_goesWeek_25 26 rfl ?_
      refine g_put C (hiC hiA_4) tyX4 tyX4_ok nmX4 0 rfl rfl 33 (by decide) (List.mem_cons_of_mem _ wl_939) rfl rfl rfl rfl (Nat.le_of_ble_eq_true rfl) dX4_goesWeek_26 (wMr g b (S.1 0 0) (S.1 0 1) (S.1 0 2) (S.1 0 3) (S.1 0 4) (S.1 0 5) (S.1 0 6) (S.1 0 7) (S.1 0 8) (S.1 0 9) (S.1 0 10) (S.1 0 11) (S.1 0 12) (S.1 0 13) (((S.1 0 14) * 1103515245) + 12345) (S.1 1) (S.1 2) (S.1 3) (S.1 4) (S.1 5) (S.1 6) (S.1 7) (S.1 8) (S.1 9) (S.1 10) (S.1 11) (S.1 12) (S.1 13) (S.1 14) (S.1 15) (S.1 16) (S.2 0) (S.2 1) (S.2 2)) rfl 29 rfl ?_
      refine g_aload_n C dX4_goesWeek_29 rfl 30 rfl ?_
      refine g_get (v := .int (((S.1 0 14) * 1103515245) + 12345)) C (hiC hiA_4) 0 rfl rfl 33 (by decide) (List.mem_cons_of_mem _ wl_939) rfl rfl dX4_goesWeek_30 33 rfl ?_
      refine g_ldcw C dX4_goesWeek_33 (C.1.2.2.2.2 _ (List.mem_cons_of_mem _ wl_947)) 36 rfl ?_
      refine g_iand C dX4_goesWeek_36 37 rfl ?_
      refine g_ldcw C dX4_goesWeek_37 (C.1.2.2.2.2 _ (List.mem_cons_of_mem _ wl_948)) 40 rfl ?_
      refine g_idiv C dX4_goesWeek_40 (by decide) 41 rfl ?_
      refine g_bipush C dX4_goesWeek_41 7 bp_7 43 rfl ?_
      refine g_irem C dX4_goesWeek_43 (by decide) 44 rfl ?_
      obtain ⟨v11, hv11, hR⟩ := opt_b hR
      refine g_topI (Option.some.inj hv11) ?_
      refine g_istore C dX4_goesWeek_44 [_, _, _, _, _] (Nat.le_of_ble_eq_true rfl) rfl rfl 46 rfl ?_
      refine g_aload_n C dX4_goesWeek_46 rfl 47 rfl ?_
      refine g_iload_n C dX4_goesWeek_47 rfl 48 rfl ?_
      refine g_aload_n C dX4_goesWeek_48 rfl 49 rfl ?_
      refine g_iload_n C dX4_goesWeek_49 rfl 50 rfl ?_
      obtain ⟨v12, hv12, hR⟩ := opt_b hR
      refine g_callIR C (rn_V C (k_X4_warmOf l g b ((kS S.1 0 (upd (S.1 0) 14 (((S.1 0 14) * 1103515245) + 12345))), S.2) x2 N_ v12 hv12) (cwV 1 C.1.2.2.2.2 (gdV wl_280 wl_277 wl_278 wl_279 wl_5) rfl rfl rfl hd_X4_warmOf ⟨Nat.le_of_ble_eq_true rfl, Nat.le_of_ble_eq_true rfl⟩) 0 rfl rfl _ rg_C rg_n rfl rfl (Nat.le_of_ble_eq_true rfl) ⟨Nat.zero_le _, Nat.zero_le _⟩ dX4_goesWeek_50) 53 rfl ?_
      refine g_iload C dX4_goesWeek_53 rfl 55 rfl ?_
      refine g_imul C dX4_goesWeek_55 56 rfl ?_
      obtain ⟨v13, hv13, hR⟩ := opt_b hR
      refine g_callV C (rn_V C (k_X4_gains l g b ((kS S.1 0 (upd (S.1 0) 14 (((S.1 0 14) * 1103515245) + 12345))), S.2) x2 (v12 * v11) N_ v13 hv13) (cwV 2 C.1.2.2.2.2 (gdV wl_269 wl_266 wl_267 wl_268 wl_5) rfl rfl rfl hd_X4_gains ⟨Nat.le_of_ble_eq_true rfl, Nat.le_of_ble_eq_true rfl⟩) 0 rfl rfl _ rg_C rg_n rfl rfl (Nat.le_of_ble_eq_true rfl) ⟨Nat.zero_le _, Nat.zero_le _⟩ dX4_goesWeek_56) (wM g b v13) (rg_put (wM_len.trans wMr_len.symm)) (rg_len (wM_len.trans wMr_len.symm)) 59 rfl ?_
      refine g_aload_n C dX4_goesWeek_59 rfl 60 rfl ?_
      refine g_iload_n C dX4_goesWeek_60 rfl 61 rfl ?_
      refine g_aload_n C dX4_goesWeek_61 rfl 62 rfl ?_
      refine g_get (v := .ref (b 2)) C (hiC hiA_4) 0 rfl rfl 1 (by decide) (List.mem_cons_of_mem _ wl_67) rfl rfl dX4_goesWeek_62 65 rfl ?_
      refine g_iload_n C dX4_goesWeek_65 rfl 66 rfl ?_
      obtain ⟨h_66, hR⟩ := opt_n hR
      refine g_iald (f := (v13.1 2)) C 2 rfl h_66 dX4_goesWeek_66 67 rfl ?_
      refine g_callIR C (rn_S C (k_X4_coldOf l g ((v13.1 2) (Int32.toNatClampNeg x2))) (va_cwS 1 C.1.2.2.2.2 (gdS wl_265 wl_263 wl_264 wl_5) rfl rfl rfl hd_X4_coldOf.2 ⟨Nat.le_of_ble_eq_true rfl, Nat.le_of_ble_eq_true rfl⟩) [] rfl rfl rfl rfl (Nat.le_of_ble_eq_true rfl) ⟨Nat.zero_le _, Nat.zero_le _⟩ dX4_goesWeek_67) 70 rfl ?_
      refine g_bipush C dX4_goesWeek_70 24 bp_24 72 rfl ?_
      refine g_iload C dX4_goesWeek_72 rfl 74 rfl ?_
      refine g_isub C dX4_goesWeek_74 75 rfl ?_
      refine g_imul C dX4_goesWeek_75 76 rfl ?_
      obtain ⟨v14, hv14, hR⟩ := opt_b hR
      refine g_callV C (rn_V C (k_X4_gains l g b v13 x2 ((f_X4_coldOf ((v13.1 2) (Int32.toNatClampNeg x2))) * (24 - v11)) N_ v14 hv14) (cwV 2 C.1.2.2.2.2 (gdV wl_269 wl_266 wl_267 wl_268 wl_5) rfl rfl rfl hd_X4_gains ⟨Nat.le_of_ble_eq_true rfl, Nat.le_of_ble_eq_true rfl⟩) 0 rfl rfl _ rg_C rg_n rfl rfl (Nat.le_of_ble_eq_true rfl) ⟨Nat.zero_le _, Nat.zero_le _⟩ dX4_goesWeek_76) (wM g b v14) (rg_put (wM_len.trans wM_len.symm)) (rg_len (wM_len.trans wM_len.symm)) 79 rfl ?_
      refine g_aload_n C dX4_goesWeek_79 rfl 80 rfl ?_
      refine g_aload_n C dX4_goesWeek_80 rfl 81 rfl ?_
      refine g_iload_n C dX4_goesWeek_81 rfl 82 rfl ?_
      refine g_iconst C dX4_goesWeek_82 4 ic_4 83 rfl ?_
      refine g_iload_n C dX4_goesWeek_83 rfl 84 rfl ?_
      obtain ⟨v15, hv15, hR⟩ := opt_b hR
      refine g_callI C (rn_V C (k_X4_useBy l g b v14 x2 4 x1 N_ v15 hv15) (cwV 3 C.1.2.2.2.2 (gdV wl_857 wl_854 wl_855 wl_856 wl_5) rfl rfl rfl hd_X4_useBy ⟨Nat.le_of_ble_eq_true rfl, Nat.le_of_ble_eq_true rfl⟩) 0 rfl rfl _ rg_C rg_n rfl rfl (Nat.le_of_ble_eq_true rfl) ⟨Nat.zero_le _, Nat.zero_le _⟩ dX4_goesWeek_84) (wM g b v15.2) (rg_put (wM_len.trans wM_len.symm)) (rg_len (wM_len.trans wM_len.symm)) 87 rfl ?_
      refine g_put C (hiC hiA_4) tyX4 tyX4_ok nmX4 0 rfl rfl 31 (by decide) (List.mem_cons_of_mem _ wl_941) rfl rfl rfl rfl (Nat.le_of_ble_eq_true rfl) dX4_goesWeek_87 (wMr g b (v15.2.1 0 0) (v15.2.1 0 1) (v15.2.1 0 2) (v15.2.1 0 3) (v15.2.1 0 4) (v15.2.1 0 5) (v15.2.1 0 6) (v15.2.1 0 7) (v15.2.1 0 8) (v15.2.1 0 9) (v15.2.1 0 10) (v15.2.1 0 11) v15.1 (v15.2.1 0 13) (v15.2.1 0 14) (v15.2.1 1) (v15.2.1 2) (v15.2.1 3) (v15.2.1 4) (v15.2.1 5) (v15.2.1 6) (v15.2.1 7) (v15.2.1 8) (v15.2.1 9) (v15.2.1 10) (v15.2.1 11) (v15.2.1 12) (v15.2.1 13) (v15.2.1 14) (v15.2.1 15) (v15.2.1 16) (v15.2.2 0) (v15.2.2 1) (v15.2.2 2)) rfl 90 rfl ?_
      refine g_aload_n C dX4_goesWeek_90 rfl 91 rfl ?_
      refine g_get (v := .int v15.1) C (hiC hiA_4) 0 rfl rfl 31 (by decide) (List.mem_cons_of_mem _ wl_941) rfl rfl dX4_goesWeek_91 94 rfl ?_
      refine g_if_eq C dX4_goesWeek_94 hR 100 97 (by decide) rfl (fun c_94 hR => ?_) (fun c_94 hR => ?_)
      · refine g_iinc C dX4_goesWeek_100 rfl 1 ic_1 [_, _, _, _, _] (Nat.le_of_ble_eq_true rfl) rfl rfl 103 rfl ?_
        refine g_goto C dX4_goesWeek_103 7 (by decide) ?_
        refine g_lv [some (.ref (b 0)), some (.int x1), some (.int x2), some (.int (x3 + 1)), none] (lvLe.sm (lvLe.sm (lvLe.sm (lvLe.sm (lvLe.nn lvLe.nil))))) ?_
        exact ih _ _ rv_ hR hk
      · refine g_goto C dX4_goesWeek_97 106 (by decide) ?_
        obtain rfl := Option.some.inj hR
        refine g_lv [some (.ref (b 0)), some (.int x1), some (.int x2), some (.int x3), none] (lvLe.sm (lvLe.sm (lvLe.sm (lvLe.sm (lvLe.nn lvLe.nil))))) ?_
        exact hk
def f_X4_goesWeek (S : (Nat → Nat → Int32) × (Nat → Nat → Int64)) (p0 : Int32) (N_ : Nat) : Option (((Nat → Nat → Int32) × (Nat → Nat → Int64))) :=
  (f_X4_goesWeek_L7 p0 (S.1 0 1) N_ N_ 0 S).bind fun v16 =>
  (f_X4_truly v16.2 (S.1 0 1) N_).bind fun v17 =>
  if (S.1 0 1) < 0 ∨ 5 ≤ (Int32.toNatClampNeg (S.1 0 1)) then none else
  some ((kS v16.2.1 0 (upd (v16.2.1 0) 13 ((f_X4_netOf v16.2 (v16.2.1 0 12) p0 v17) * ((v16.2.1 4) (Int32.toNatClampNeg (S.1 0 1)))))), v16.2.2)
set_option maxRecDepth 100000 in
set_option maxHeartbeats 4000000 in
theorem k_X4_goesWeek (l : Launch) (g : gE) (b : Nat → Nat) (S : (Nat → Nat → Int32) × (Nat → Nat → Int64)) (p0 : Int32) (N_ : Nat) (R_ : ((Nat → Nat → Int32) × (Nat → Nat → Int64))) (hR : f_X4_goesWeek S p0 N_ = some R_) : FnV l g yX4_goesWeek wA_X4_goesWeek { frames := 5, cells := 0, slots := 0, locals := 118 } [.ref (b 0), .int p0] (wM g b S)  (wM g b R_) := by
  refine fEntry (As := [.ref (b 0), .int p0]) (maxL := 5) (ret := none) (by decide) rfl [some (.ref (b 0)), some (.int p0), none, none, none] (Nat.le_of_ble_eq_true rfl) (lvInB.to (lvInB.sm (lvInB.sm (lvInB.nn (lvInB.nn (lvInB.nn lvInB.nil)))))) ?_
  intro p e s m below meth c A C hr hlocks hname hA
  have C : Cx p s m _ c g A cX4_goesWeek 5 wA_X4_goesWeek RX4 := C
  rw [f_X4_goesWeek] at hR
  refine g_aload_n C dX4_goesWeek_0 rfl 1 rfl ?_
  refine g_get (v := .int (S.1 0 1)) C (hiC hiA_4) 0 rfl rfl 10 (by decide) (List.mem_cons_of_mem _ wl_240) rfl rfl dX4_goesWeek_1 4 rfl ?_
  refine g_istore_n C dX4_goesWeek_4 [_, _, _, _, _] (Nat.le_of_ble_eq_true rfl) rfl rfl 5 rfl ?_
  refine g_iconst C dX4_goesWeek_5 0 ic_0 6 rfl ?_
  refine g_istore_n C dX4_goesWeek_6 [_, _, _, _, _] (Nat.le_of_ble_eq_true rfl) rfl rfl 7 rfl ?_
  refine g_lv [some (.ref (b 0)), some (.int p0), some (.int (S.1 0 1)), some (.int 0), none] (lvLe.sm (lvLe.sm (lvLe.sm (lvLe.sm (lvLe.nn lvLe.nil))))) ?_
  obtain ⟨v16, hv16, hR⟩ := opt_b hR
  refine k_X4_goesWeek_L7 l g C N_ p0 (S.1 0 1) N_ 0 S _ hv16 ?_
  refine g_aload_n C dX4_goesWeek_106 rfl 107 rfl ?_
  refine g_aload_n C dX4_goesWeek_107 rfl 108 rfl ?_
  refine g_aload_n C dX4_goesWeek_108 rfl 109 rfl ?_
  refine g_get (v := .int (v16.2.1 0 12)) C (hiC hiA_4) 0 rfl rfl 31 (by decide) (List.mem_cons_of_mem _ wl_941) rfl rfl dX4_goesWeek_109 112 rfl ?_
  refine g_iload_n C dX4_goesWeek_112 rfl 113 rfl ?_
  refine g_aload_n C dX4_goesWeek_113 rfl 114 rfl ?_
  refine g_iload_n C dX4_goesWeek_114 rfl 115 rfl ?_
  obtain ⟨v17, hv17, hR⟩ := opt_b hR
  refine g_callIR C (rn_V C (k_X4_truly l g b v16.2 (S.1 0 1) N_ v17 hv17) (cwV 1 C.1.2.2.2.2 (gdV wl_311 wl_308 wl_309 wl_310 wl_5) rfl rfl rfl hd_X4_truly ⟨Nat.le_of_ble_eq_true rfl, Nat.le_of_ble_eq_true rfl⟩) 0 rfl rfl _ rg_C rg_n rfl rfl (Nat.le_of_ble_eq_true rfl) ⟨Nat.zero_le _, Nat.zero_le _⟩ dX4_goesWeek_115) 118 rfl ?_
  refine g_callIR C (rn_V C (k_X4_netOf l g b v16.2 (v16.2.1 0 12) p0 v17) (cwV 3 C.1.2.2.2.2 (gdV wl_532 wl_529 wl_530 wl_531 wl_5) rfl rfl rfl hd_X4_netOf ⟨Nat.le_of_ble_eq_true rfl, Nat.le_of_ble_eq_true rfl⟩) 0 rfl rfl _ rg_C rg_n rfl rfl (Nat.le_of_ble_eq_true rfl) ⟨Nat.zero_le _, Nat.zero_le _⟩ dX4_goesWeek_118) 121 rfl ?_
  refine g_aload_n C dX4_goesWeek_121 rfl 122 rfl ?_
  refine g_get (v := .ref (b 4)) C (hiC hiA_4) 0 rfl rfl 3 (by decide) (List.mem_cons_of_mem _ wl_69) rfl rfl dX4_goesWeek_122 125 rfl ?_
  refine g_iload_n C dX4_goesWeek_125 rfl 126 rfl ?_
  obtain ⟨h_126, hR⟩ := opt_n hR
  refine g_iald (f := (v16.2.1 4)) C 4 rfl h_126 dX4_goesWeek_126 127 rfl ?_
  refine g_imul C dX4_goesWeek_127 128 rfl ?_
  refine g_put C (hiC hiA_4) tyX4 tyX4_ok nmX4 0 rfl rfl 32 (by decide) (List.mem_cons_of_mem _ wl_940) rfl rfl rfl rfl (Nat.le_of_ble_eq_true rfl) dX4_goesWeek_128 (wMr g b (v16.2.1 0 0) (v16.2.1 0 1) (v16.2.1 0 2) (v16.2.1 0 3) (v16.2.1 0 4) (v16.2.1 0 5) (v16.2.1 0 6) (v16.2.1 0 7) (v16.2.1 0 8) (v16.2.1 0 9) (v16.2.1 0 10) (v16.2.1 0 11) (v16.2.1 0 12) ((f_X4_netOf v16.2 (v16.2.1 0 12) p0 v17) * ((v16.2.1 4) (Int32.toNatClampNeg (S.1 0 1)))) (v16.2.1 0 14) (v16.2.1 1) (v16.2.1 2) (v16.2.1 3) (v16.2.1 4) (v16.2.1 5) (v16.2.1 6) (v16.2.1 7) (v16.2.1 8) (v16.2.1 9) (v16.2.1 10) (v16.2.1 11) (v16.2.1 12) (v16.2.1 13) (v16.2.1 14) (v16.2.1 15) (v16.2.1 16) (v16.2.2 0) (v16.2.2 1) (v16.2.2 2)) rfl 131 rfl ?_
  obtain rfl := Option.some.inj hR
  exact g_vret C hr hlocks hA (by first | (dsimp only; done) | rfl) dX4_goesWeek_131
theorem hd_X4_seeds : yX4_seeds.cls = RX4 ∧ yX4_seeds.cls ≠ "java/lang/invoke/MethodHandle" ∧ yX4_seeds.cls ≠ "java/lang/invoke/VarHandle" ∧ (parseMethodDescriptor yX4_seeds.desc).map (fun d => d.parameters.length) = some 4 := by decide +kernel
def f_X4_seeds_L77 (x1 : Int32) (x2 : Int32) (x6 : Int32) (N_ : Nat) : Nat → Int32 → Int32 → Int32 → ((Nat → Nat → Int32) × (Nat → Nat → Int64)) → Option (Int32 × Int32 × Int32 × ((Nat → Nat → Int32) × (Nat → Nat → Int64)))
  | 0, _, _, _, _ => none
  | n_ + 1, x7, x8, x9, S =>
    if x2 ≤ x9 then
      some (x7, x8, x9, S)
    else
      if (S.1 0 1) < 0 ∨ 5 ≤ (Int32.toNatClampNeg (S.1 0 1)) then none else
      (f_X4_goesWeek ((kS S.1 5 (upd (S.1 5) (Int32.toNatClampNeg (S.1 0 1)) x6)), S.2) x1 N_).bind fun v5 =>
      if (v5.1 0 12) = 4 then
        f_X4_seeds_L77 x1 x2 x6 N_ n_ (x7 + (v5.1 0 13)) (x8 + 1) (x9 + 1) v5
      else
        f_X4_seeds_L77 x1 x2 x6 N_ n_ (x7 + (v5.1 0 13)) (x8 + 0) (x9 + 1) v5
set_option maxRecDepth 100000 in
set_option maxHeartbeats 4000000 in
theorem k_X4_seeds_L77 (l : Launch) (g : gE) {p : Program} {e : Env} {s : State} {m : MethodId} {args : Array Value} {below : List Frame} {meth : Method} {c : Code} {Q : State → Prop} {A : Nat → Prop} {b : Nat → Nat}  (C : Cx p s m args c g A cX4_seeds 10 wA_X4_seeds RX4) (N_ : Nat) (x1 : Int32) (x2 : Int32) (x3 : Int32) (x4 : Int32) (x5 : Int32) (x6 : Int32) : ∀ (n_ : Nat) (x7 : Int32) (x8 : Int32) (x9 : Int32) (S : (Nat → Nat → Int32) × (Nat → Nat → Int64)) (rv_ : Int32 × Int32 × Int32 × ((Nat → Nat → Int32) × (Nat → Nat → Int64))), f_X4_seeds_L77 x1 x2 x6 N_ n_ x7 x8 x9 S = some rv_ → (Gm p l e (headSpec wA_X4_seeds ({ frames := 6, cells := 0, slots := 0, locals := 142 } : Room)).room s m args below meth c Q g A 10 0 0 (wM g b rv_.2.2.2) [some (.ref (b 0)), some (.int x1), some (.int x2), some (.int x3), some (.int x4), some (.int x5), some (.int x6), some (.int rv_.1), some (.int rv_.2.1), some (.int rv_.2.2.1)] [] 132) → Gm p l e (headSpec wA_X4_seeds ({ frames := 6, cells := 0, slots := 0, locals := 142 } : Room)).room s m args below meth c Q g A 10 0 0 (wM g b S) [some (.ref (b 0)), some (.int x1), some (.int x2), some (.int x3), some (.int x4), some (.int x5), some (.int x6), some (.int x7), some (.int x8), some (.int x9)] [] 77 := by
  intro n_
  induction n_ with
  | zero =>
    intro x7 x8 x9 S rv_ hR
    simp [f_X4_seeds_L77] at hR
  | succ n_ ih =>
    intro x7 x8 x9 S rv_ hR hk
    rw [f_X4_seeds_L77] at hR
    refine g_iload C dX4_seeds_77 rfl 79 rfl ?_
    refine g_iload_n C dX4_seeds_79 rfl 80 rfl ?_
    refine g_icmp_ge C dX4_seeds_80 hR 132 83 (by decide) rfl (fun c_80 hR => ?_) (fun c_80 hR => ?_)
    · obtain rfl := Option.some.inj hR
      refine g_lv [some (.ref (b 0)), some (.int x1), some (.int x2), some (.int x3), some (.int x4), some (.int x5), some (.int x6), some (.int x7), some (.int x8), some (.int x9)] (lvLe.sm (lvLe.sm (lvLe.sm (lvLe.sm (lvLe.sm (lvLe.sm (lvLe.sm (lvLe.sm (lvLe.sm (lvLe.sm lvLe.nil)))))))))) ?_
      exact hk
    · refine g_aload_n C dX4_seeds_83 rfl 84 rfl ?_
      refine g_get (v := .ref (b 5)) C (hiC hiA_4) 0 rfl rfl 4 (by decide) (List.mem_cons_of_mem _ wl_70) rfl rfl dX4_seeds_84 87 rfl ?_
      refine g_aload_n C dX4_seeds_87 rfl 88 rfl ?_
      refine g_get (v := .int (S.1 0 1)) C (hiC hiA_4) 0 rfl rfl 10 (by decide) (List.mem_cons_of_mem _ wl_240) rfl rfl dX4_seeds_88 91 rfl ?_
      refine g_iload C dX4_seeds_91 rfl 93 rfl ?_
      obtain ⟨h_93, hR⟩ := opt_n hR
      refine g_iast (f := (S.1 5)) C 5 rfl h_93 dX4_seeds_93 (wMr g b (S.1 0 0) (S.1 0 1) (S.1 0 2) (S.1 0 3) (S.1 0 4) (S.1 0 5) (S.1 0 6) (S.1 0 7) (S.1 0 8) (S.1 0 9) (S.1 0 10) (S.1 0 11) (S.1 0 12) (S.1 0 13) (S.1 0 14) (S.1 1) (S.1 2) (S.1 3) (S.1 4) (upd (S.1 5) (Int32.toNatClampNeg (S.1 0 1)) x6) (S.1 6) (S.1 7) (S.1 8) (S.1 9) (S.1 10) (S.1 11) (S.1 12) (S.1 13) (S.1 14) (S.1 15) (S.1 16) (S.2 0) (S.2 1) (S.2 2)) rfl 94 rfl ?_
      refine g_aload_n C dX4_seeds_94 rfl 95 rfl ?_
      refine g_iload_n C dX4_seeds_95 rfl 96 rfl ?_
      obtain ⟨v5, hv5, hR⟩ := opt_b hR
      refine g_callV C (rn_V C (k_X4_goesWeek l g b ((kS S.1 5 (upd (S.1 5) (Int32.toNatClampNeg (S.1 0 1)) x6)), S.2) x1 N_ v5 hv5) (cwV 1 C.1.2.2.2.2 (gdV wl_945 wl_942 wl_943 wl_944 wl_5) rfl rfl rfl hd_X4_goesWeek ⟨Nat.le_of_ble_eq_true rfl, Nat.le_of_ble_eq_true rfl⟩) 0 rfl rfl _ rg_C rg_n rfl rfl (Nat.le_of_ble_eq_true rfl) ⟨Nat.zero_le _, Nat.zero_le _⟩ dX4_seeds_96) (wM g b v5) (rg_put (wM_len.trans wMr_len.symm)) (rg_len (wM_len.trans wMr_len.symm)) 99 rfl ?_
      refine g_iload C dX4_seeds_99 rfl 101 rfl ?_
      refine g_aload_n C dX4_seeds_101 rfl 102 rfl ?_
      refine g_get (v := .int (v5.1 0 13)) C (hiC hiA_4) 0 rfl rfl 32 (by decide) (List.mem_cons_of_mem _ wl_940) rfl rfl dX4_seeds_102 105 rfl ?_
      refine g_iadd C dX4_seeds_105 106 rfl ?_
      refine g_istore C dX4_seeds_106 [_, _, _, _, _, _, _, _, _, _] (Nat.le_of_ble_eq_true rfl) rfl rfl 108 rfl ?_
      refine g_iload C dX4_seeds_108 rfl 110 rfl ?_
      refine g_aload_n C dX4_seeds_110 rfl 111 rfl ?_
      refine g_get (v := .int (v5.1 0 12)) C (hiC hiA_4) 0 rfl rfl 31 (by decide) (List.mem_cons_of_mem _ wl_941) rfl rfl dX4_seeds_111 114 rfl ?_
      refine g_iconst C dX4_seeds_114 4 ic_4 115 rfl ?_
      refine g_icmp_ne C dX4_seeds_115 hR 122 118 (by decide) rfl (fun c_115 hR => ?_) (fun c_115 hR => ?_)
      · refine g_iconst C dX4_seeds_122 0 ic_0 123 rfl ?_
        refine g_iadd C dX4_seeds_123 124 rfl ?_
        refine g_istore C dX4_seeds_124 [_, _, _, _, _, _, _, _, _, _] (Nat.le_of_ble_eq_true rfl) rfl rfl 126 rfl ?_
        refine g_iinc C dX4_seeds_126 rfl 1 ic_1 [_, _, _, _, _, _, _, _, _, _] (Nat.le_of_ble_eq_true rfl) rfl rfl 129 rfl ?_
        refine g_goto C dX4_seeds_129 77 (by decide) ?_
        refine g_lv [some (.ref (b 0)), some (.int x1), some (.int x2), some (.int x3), some (.int x4), some (.int x5), some (.int x6), some (.int (x7 + (v5.1 0 13))), some (.int (x8 + 0)), some (.int (x9 + 1))] (lvLe.sm (lvLe.sm (lvLe.sm (lvLe.sm (lvLe.sm (lvLe.sm (lvLe.sm (lvLe.sm (lvLe.sm (lvLe.sm lvLe.nil)))))))))) ?_
        exact ih _ _ _ _ rv_ hR hk
      · refine g_iconst C dX4_seeds_118 1 ic_1 119 rfl ?_
        refine g_goto C dX4_seeds_119 123 (by decide) ?_
        refine g_iadd C dX4_seeds_123 124 rfl ?_
        refine g_istore C dX4_seeds_124 [_, _, _, _, _, _, _, _, _, _] (Nat.le_of_ble_eq_true rfl) rfl rfl 126 rfl ?_
        refine g_iinc C dX4_seeds_126 rfl 1 ic_1 [_, _, _, _, _, _, _, _, _, _] (Nat.le_of_ble_eq_true rfl) rfl rfl 129 rfl ?_
        refine g_goto C dX4_seeds_129 77 (by decide) ?_
        refine g_lv [some (.ref (b 0)), some (.int x1), some (.int x2), some (.int x3), some (.int x4), some (.int x5), some (.int x6), some (.int (x7 + (v5.1 0 13))), some (.int (x8 + 1)), some (.int (x9 + 1))] (lvLe.sm (lvLe.sm (lvLe.sm (lvLe.sm (lvLe.sm (lvLe.sm (lvLe.sm (lvLe.sm (lvLe.sm (lvLe.sm lvLe.nil)))))))))) ?_
        exact ih _ _ _ _ rv_ hR hk
def f_X4_seeds (S : (Nat → Nat → Int32) × (Nat → Nat → Int64)) (p0 : Int32) (p1 : Int32) (p2 : Int32) (p3 : Int32) (N_ : Nat) : Option (Int32 × ((Nat → Nat → Int32) × (Nat → Nat → Int64))) :=
  if (f_X4_notBest S p0) = 0 then
    if (f_X4_bound p1 1 20) = 0 then
      if (b2i (f_X4_isIn p3 0 1)) = 0 then
        (f_X4_lower S (-2) N_).bind fun v7 =>
        some (v7.1, v7.2)
      else
        if (S.1 0 1) < 0 ∨ 5 ≤ (Int32.toNatClampNeg (S.1 0 1)) then none else
        (f_X4_seeds_L77 p0 p1 ((S.1 5) (Int32.toNatClampNeg (S.1 0 1))) N_ N_ 0 0 0 ((kS S.1 0 (upd (S.1 0) 14 p2)), S.2)).bind fun v6 =>
        if (v6.2.2.2.1 0 1) < 0 ∨ 5 ≤ (Int32.toNatClampNeg (v6.2.2.2.1 0 1)) then none else
        if p3 = 0 then
          some (v6.1, ((kS v6.2.2.2.1 5 (upd (v6.2.2.2.1 5) (Int32.toNatClampNeg (v6.2.2.2.1 0 1)) ((S.1 5) (Int32.toNatClampNeg (S.1 0 1))))), v6.2.2.2.2))
        else
          some (v6.2.1, ((kS v6.2.2.2.1 5 (upd (v6.2.2.2.1 5) (Int32.toNatClampNeg (v6.2.2.2.1 0 1)) ((S.1 5) (Int32.toNatClampNeg (S.1 0 1))))), v6.2.2.2.2))
    else
      (f_X4_lower S (f_X4_bound p1 1 20) N_).bind fun v2 =>
      some (v2.1, v2.2)
  else
    (f_X4_lower S (f_X4_notBest S p0) N_).bind fun v1 =>
    some (v1.1, v1.2)
set_option maxRecDepth 100000 in
set_option maxHeartbeats 4000000 in
theorem k_X4_seeds (l : Launch) (g : gE) (b : Nat → Nat) (S : (Nat → Nat → Int32) × (Nat → Nat → Int64)) (p0 : Int32) (p1 : Int32) (p2 : Int32) (p3 : Int32) (N_ : Nat) (R_ : Int32 × ((Nat → Nat → Int32) × (Nat → Nat → Int64))) (hR : f_X4_seeds S p0 p1 p2 p3 N_ = some R_) : FnI l g yX4_seeds wA_X4_seeds { frames := 6, cells := 0, slots := 0, locals := 142 } [.ref (b 0), .int p0, .int p1, .int p2, .int p3] (wM g b S) R_.1 (wM g b R_.2) := by
  refine fEntry (As := [.ref (b 0), .int p0, .int p1, .int p2, .int p3]) (maxL := 10) (ret := (some .int)) (by decide) rfl [some (.ref (b 0)), some (.int p0), some (.int p1), some (.int p2), some (.int p3), none, none, none, none, none] (Nat.le_of_ble_eq_true rfl) (lvInB.to (lvInB.sm (lvInB.sm (lvInB.sm (lvInB.sm (lvInB.sm (lvInB.nn (lvInB.nn (lvInB.nn (lvInB.nn (lvInB.nn lvInB.nil))))))))))) ?_
  intro p e s m below meth c A C hr hlocks hname hA
  have C : Cx p s m _ c g A cX4_seeds 10 wA_X4_seeds RX4 := C
  rw [f_X4_seeds] at hR
  refine g_aload_n C dX4_seeds_0 rfl 1 rfl ?_
  refine g_iload_n C dX4_seeds_1 rfl 2 rfl ?_
  refine g_callIR C (rn_V C (k_X4_notBest l g b S p0) (cwV 1 C.1.2.2.2.2 (gdV wl_558 wl_555 wl_556 wl_557 wl_5) rfl rfl rfl hd_X4_notBest ⟨Nat.le_of_ble_eq_true rfl, Nat.le_of_ble_eq_true rfl⟩) 0 rfl rfl _ rg_C rg_n rfl rfl (Nat.le_of_ble_eq_true rfl) ⟨Nat.zero_le _, Nat.zero_le _⟩ dX4_seeds_2) 5 rfl ?_
  refine g_istore C dX4_seeds_5 [_, _, _, _, _, _, _, _, _, _] (Nat.le_of_ble_eq_true rfl) rfl rfl 7 rfl ?_
  refine g_iload C dX4_seeds_7 rfl 9 rfl ?_
  refine g_if_ne C dX4_seeds_9 hR 21 12 (by decide) rfl (fun c_9 hR => ?_) (fun c_9 hR => ?_)
  · refine g_iload C dX4_seeds_21 rfl 23 rfl ?_
    refine g_if_neT C dX4_seeds_23 c_9 40 (by decide) ?_
    refine g_iload C dX4_seeds_40 rfl 42 rfl ?_
    refine g_if_eqF C dX4_seeds_42 c_9 52 45 (by decide) rfl ?_
    refine g_aload_n C dX4_seeds_45 rfl 46 rfl ?_
    refine g_iload C dX4_seeds_46 rfl 48 rfl ?_
    obtain ⟨v1, hv1, hR⟩ := opt_b hR
    refine g_callI C (rn_V C (k_X4_lower l g b S (f_X4_notBest S p0) N_ v1 hv1) (cwV 1 C.1.2.2.2.2 (gdV wl_852 wl_849 wl_850 wl_851 wl_5) rfl rfl rfl hd_X4_lower ⟨Nat.le_of_ble_eq_true rfl, Nat.le_of_ble_eq_true rfl⟩) 0 rfl rfl _ rg_C rg_n rfl rfl (Nat.le_of_ble_eq_true rfl) ⟨Nat.zero_le _, Nat.zero_le _⟩ dX4_seeds_48) (wM g b v1.2) (rg_put (wM_len.trans wM_len.symm)) (rg_len (wM_len.trans wM_len.symm)) 51 rfl ?_
    obtain rfl := Option.some.inj hR
    exact g_iret C hr hlocks hA (by first | (dsimp only; done) | rfl) (by first | (dsimp only; done) | rfl) dX4_seeds_51
  · refine g_iload_n C dX4_seeds_12 rfl 13 rfl ?_
    refine g_iconst C dX4_seeds_13 1 ic_1 14 rfl ?_
    refine g_bipush C dX4_seeds_14 20 bp_20 16 rfl ?_
    refine g_callIR C (rn_S C (k_X4_bound l g p1 1 20) (va_cwS 3 C.1.2.2.2.2 (gdS wl_107 wl_105 wl_106 wl_5) rfl rfl rfl hd_X4_bound.2 ⟨Nat.le_of_ble_eq_true rfl, Nat.le_of_ble_eq_true rfl⟩) [] rfl rfl rfl rfl (Nat.le_of_ble_eq_true rfl) ⟨Nat.zero_le _, Nat.zero_le _⟩ dX4_seeds_16) 19 rfl ?_
    refine g_istore C dX4_seeds_19 [_, _, _, _, _, _, _, _, _, _] (Nat.le_of_ble_eq_true rfl) rfl rfl 21 rfl ?_
    refine g_iload C dX4_seeds_21 rfl 23 rfl ?_
    refine g_if_ne C dX4_seeds_23 hR 40 26 (by decide) rfl (fun c_23 hR => ?_) (fun c_23 hR => ?_)
    · refine g_iload C dX4_seeds_40 rfl 42 rfl ?_
      refine g_if_eqF C dX4_seeds_42 c_23 52 45 (by decide) rfl ?_
      refine g_aload_n C dX4_seeds_45 rfl 46 rfl ?_
      refine g_iload C dX4_seeds_46 rfl 48 rfl ?_
      obtain ⟨v2, hv2, hR⟩ := opt_b hR
      refine g_callI C (rn_V C (k_X4_lower l g b S (f_X4_bound p1 1 20) N_ v2 hv2) (cwV 1 C.1.2.2.2.2 (gdV wl_852 wl_849 wl_850 wl_851 wl_5) rfl rfl rfl hd_X4_lower ⟨Nat.le_of_ble_eq_true rfl, Nat.le_of_ble_eq_true rfl⟩) 0 rfl rfl _ rg_C rg_n rfl rfl (Nat.le_of_ble_eq_true rfl) ⟨Nat.zero_le _, Nat.zero_le _⟩ dX4_seeds_48) (wM g b v2.2) (rg_put (wM_len.trans wM_len.symm)) (rg_len (wM_len.trans wM_len.symm)) 51 rfl ?_
      obtain rfl := Option.some.inj hR
      exact g_iret C hr hlocks hA (by first | (dsimp only; done) | rfl) (by first | (dsimp only; done) | rfl) dX4_seeds_51
    · refine g_iload C dX4_seeds_26 rfl 28 rfl ?_
      refine g_iconst C dX4_seeds_28 0 ic_0 29 rfl ?_
      refine g_iconst C dX4_seeds_29 1 ic_1 30 rfl ?_
      refine g_callIR C (rn_S C (k_X4_isIn l g p3 0 1) (va_cwS 3 C.1.2.2.2.2 (gdS wl_232 wl_230 wl_231 wl_5) rfl rfl rfl hd_X4_isIn.2 ⟨Nat.le_of_ble_eq_true rfl, Nat.le_of_ble_eq_true rfl⟩) [] rfl rfl rfl rfl (Nat.le_of_ble_eq_true rfl) ⟨Nat.zero_le _, Nat.zero_le _⟩ dX4_seeds_30) 33 rfl ?_
      refine g_if_ne C dX4_seeds_33 hR 40 36 (by decide) rfl (fun c_33 hR => ?_) (fun c_33 hR => ?_)
      · refine g_iload C dX4_seeds_40 rfl 42 rfl ?_
        refine g_if_eqT C dX4_seeds_42 c_23 52 (by decide) ?_
        refine g_aload_n C dX4_seeds_52 rfl 53 rfl ?_
        refine g_get (v := .ref (b 5)) C (hiC hiA_4) 0 rfl rfl 4 (by decide) (List.mem_cons_of_mem _ wl_70) rfl rfl dX4_seeds_53 56 rfl ?_
        refine g_aload_n C dX4_seeds_56 rfl 57 rfl ?_
        refine g_get (v := .int (S.1 0 1)) C (hiC hiA_4) 0 rfl rfl 10 (by decide) (List.mem_cons_of_mem _ wl_240) rfl rfl dX4_seeds_57 60 rfl ?_
        obtain ⟨h_60, hR⟩ := opt_n hR
        refine g_iald (f := (S.1 5)) C 5 rfl h_60 dX4_seeds_60 61 rfl ?_
        refine g_istore C dX4_seeds_61 [_, _, _, _, _, _, _, _, _, _] (Nat.le_of_ble_eq_true rfl) rfl rfl 63 rfl ?_
        refine g_iconst C dX4_seeds_63 0 ic_0 64 rfl ?_
        refine g_istore C dX4_seeds_64 [_, _, _, _, _, _, _, _, _, _] (Nat.le_of_ble_eq_true rfl) rfl rfl 66 rfl ?_
        refine g_iconst C dX4_seeds_66 0 ic_0 67 rfl ?_
        refine g_istore C dX4_seeds_67 [_, _, _, _, _, _, _, _, _, _] (Nat.le_of_ble_eq_true rfl) rfl rfl 69 rfl ?_
        refine g_aload_n C dX4_seeds_69 rfl 70 rfl ?_
        refine g_iload_n C dX4_seeds_70 rfl 71 rfl ?_
        refine g_put C (hiC hiA_4) tyX4 tyX4_ok nmX4 0 rfl rfl 33 (by decide) (List.mem_cons_of_mem _ wl_939) rfl rfl rfl rfl (Nat.le_of_ble_eq_true rfl) dX4_seeds_71 (wMr g b (S.1 0 0) (S.1 0 1) (S.1 0 2) (S.1 0 3) (S.1 0 4) (S.1 0 5) (S.1 0 6) (S.1 0 7) (S.1 0 8) (S.1 0 9) (S.1 0 10) (S.1 0 11) (S.1 0 12) (S.1 0 13) p2 (S.1 1) (S.1 2) (S.1 3) (S.1 4) (S.1 5) (S.1 6) (S.1 7) (S.1 8) (S.1 9) (S.1 10) (S.1 11) (S.1 12) (S.1 13) (S.1 14) (S.1 15) (S.1 16) (S.2 0) (S.2 1) (S.2 2)) rfl 74 rfl ?_
        refine g_iconst C dX4_seeds_74 0 ic_0 75 rfl ?_
        refine g_istore C dX4_seeds_75 [_, _, _, _, _, _, _, _, _, _] (Nat.le_of_ble_eq_true rfl) rfl rfl 77 rfl ?_
        refine g_lv [some (.ref (b 0)), some (.int p0), some (.int p1), some (.int p2), some (.int p3), some (.int (f_X4_bound p1 1 20)), some (.int ((S.1 5) (Int32.toNatClampNeg (S.1 0 1)))), some (.int 0), some (.int 0), some (.int 0)] (lvLe.sm (lvLe.sm (lvLe.sm (lvLe.sm (lvLe.sm (lvLe.sm (lvLe.sm (lvLe.sm (lvLe.sm (lvLe.sm lvLe.nil)))))))))) ?_
        obtain ⟨v6, hv6, hR⟩ := opt_b hR
        refine k_X4_seeds_L77 l g C N_ p0 p1 p2 p3 (f_X4_bound p1 1 20) ((S.1 5) (Int32.toNatClampNeg (S.1 0 1))) N_ 0 0 0 ((kS S.1 0 (upd (S.1 0) 14 p2)), S.2) _ hv6 ?_
        refine g_aload_n C dX4_seeds_132 rfl 133 rfl ?_
        refine g_get (v := .ref (b 5)) C (hiC hiA_4) 0 rfl rfl 4 (by decide) (List.mem_cons_of_mem _ wl_70) rfl rfl dX4_seeds_133 136 rfl ?_
        refine g_aload_n C dX4_seeds_136 rfl 137 rfl ?_
        refine g_get (v := .int (v6.2.2.2.1 0 1)) C (hiC hiA_4) 0 rfl rfl 10 (by decide) (List.mem_cons_of_mem _ wl_240) rfl rfl dX4_seeds_137 140 rfl ?_
        refine g_iload C dX4_seeds_140 rfl 142 rfl ?_
        obtain ⟨h_142, hR⟩ := opt_n hR
        refine g_iast (f := (v6.2.2.2.1 5)) C 5 rfl h_142 dX4_seeds_142 (wMr g b (v6.2.2.2.1 0 0) (v6.2.2.2.1 0 1) (v6.2.2.2.1 0 2) (v6.2.2.2.1 0 3) (v6.2.2.2.1 0 4) (v6.2.2.2.1 0 5) (v6.2.2.2.1 0 6) (v6.2.2.2.1 0 7) (v6.2.2.2.1 0 8) (v6.2.2.2.1 0 9) (v6.2.2.2.1 0 10) (v6.2.2.2.1 0 11) (v6.2.2.2.1 0 12) (v6.2.2.2.1 0 13) (v6.2.2.2.1 0 14) (v6.2.2.2.1 1) (v6.2.2.2.1 2) (v6.2.2.2.1 3) (v6.2.2.2.1 4) (upd (v6.2.2.2.1 5) (Int32.toNatClampNeg (v6.2.2.2.1 0 1)) ((S.1 5) (Int32.toNatClampNeg (S.1 0 1)))) (v6.2.2.2.1 6) (v6.2.2.2.1 7) (v6.2.2.2.1 8) (v6.2.2.2.1 9) (v6.2.2.2.1 10) (v6.2.2.2.1 11) (v6.2.2.2.1 12) (v6.2.2.2.1 13) (v6.2.2.2.1 14) (v6.2.2.2.1 15) (v6.2.2.2.1 16) (v6.2.2.2.2 0) (v6.2.2.2.2 1) (v6.2.2.2.2 2)) rfl 143 rfl ?_
        refine g_iload C dX4_seeds_143 rfl 145 rfl ?_
        refine g_if_ne C dX4_seeds_145 hR 153 148 (by decide) rfl (fun c_145 hR => ?_) (fun c_145 hR => ?_)
        · refine g_iload C dX4_seeds_153 rfl 155 rfl ?_
          obtain rfl := Option.some.inj hR
          exact g_iret C hr hlocks hA (by first | (dsimp only; done) | rfl) (by first | (dsimp only; done) | rfl) dX4_seeds_155
        · refine g_iload C dX4_seeds_148 rfl 150 rfl ?_
          refine g_goto C dX4_seeds_150 155 (by decide) ?_
          obtain rfl := Option.some.inj hR
          exact g_iret C hr hlocks hA (by first | (dsimp only; done) | rfl) (by first | (dsimp only; done) | rfl) dX4_seeds_155
      · refine g_bipush C dX4_seeds_36 (-2) bp_m2 38 rfl ?_
        refine g_istore C dX4_seeds_38 [_, _, _, _, _, _, _, _, _, _] (Nat.le_of_ble_eq_true rfl) rfl rfl 40 rfl ?_
        refine g_iload C dX4_seeds_40 rfl 42 rfl ?_
        refine g_if_eqF C dX4_seeds_42 (by decide) 52 45 (by decide) rfl ?_
        refine g_aload_n C dX4_seeds_45 rfl 46 rfl ?_
        refine g_iload C dX4_seeds_46 rfl 48 rfl ?_
        obtain ⟨v7, hv7, hR⟩ := opt_b hR
        refine g_callI C (rn_V C (k_X4_lower l g b S (-2) N_ v7 hv7) (cwV 1 C.1.2.2.2.2 (gdV wl_852 wl_849 wl_850 wl_851 wl_5) rfl rfl rfl hd_X4_lower ⟨Nat.le_of_ble_eq_true rfl, Nat.le_of_ble_eq_true rfl⟩) 0 rfl rfl _ rg_C rg_n rfl rfl (Nat.le_of_ble_eq_true rfl) ⟨Nat.zero_le _, Nat.zero_le _⟩ dX4_seeds_48) (wM g b v7.2) (rg_put (wM_len.trans wM_len.symm)) (rg_len (wM_len.trans wM_len.symm)) 51 rfl ?_
        obtain rfl := Option.some.inj hR
        exact g_iret C hr hlocks hA (by first | (dsimp only; done) | rfl) (by first | (dsimp only; done) | rfl) dX4_seeds_51
theorem hd_X4_allCups : yX4_allCups.cls = RX4 ∧ yX4_allCups.cls ≠ "java/lang/invoke/MethodHandle" ∧ yX4_allCups.cls ≠ "java/lang/invoke/VarHandle" ∧ (parseMethodDescriptor yX4_allCups.desc).map (fun d => d.parameters.length) = some 0 := by decide +kernel
def f_X4_allCups_L4 (S : (Nat → Nat → Int32) × (Nat → Nat → Int64)) (N_ : Nat) : Nat → Int32 → Int32 → Option (Int32 × Int32)
  | 0, _, _ => none
  | n_ + 1, x1, x2 =>
    if (S.1 0 0) ≤ x2 then
      some (x1, x2)
    else
      if x2 < 0 ∨ 5 ≤ (Int32.toNatClampNeg x2) then none else
      f_X4_allCups_L4 S N_ n_ (x1 + ((S.1 4) (Int32.toNatClampNeg x2))) (x2 + 1)
set_option maxRecDepth 100000 in
set_option maxHeartbeats 4000000 in
theorem k_X4_allCups_L4 (l : Launch) (g : gE) {p : Program} {e : Env} {s : State} {m : MethodId} {args : Array Value} {below : List Frame} {meth : Method} {c : Code} {Q : State → Prop} {A : Nat → Prop} {b : Nat → Nat}  (C : Cx p s m args c g A cX4_allCups 3 wA_X4_allCups RX4) (N_ : Nat) (S : (Nat → Nat → Int32) × (Nat → Nat → Int64)) : ∀ (n_ : Nat) (x1 : Int32) (x2 : Int32) (rv_ : Int32 × Int32), f_X4_allCups_L4 S N_ n_ x1 x2 = some rv_ → (Gm p l e (headSpec wA_X4_allCups ({ frames := 0, cells := 0, slots := 0, locals := 0 } : Room)).room s m args below meth c Q g A 3 0 0 (wM g b S) [some (.ref (b 0)), some (.int rv_.1), some (.int rv_.2)] [] 27) → Gm p l e (headSpec wA_X4_allCups ({ frames := 0, cells := 0, slots := 0, locals := 0 } : Room)).room s m args below meth c Q g A 3 0 0 (wM g b S) [some (.ref (b 0)), some (.int x1), some (.int x2)] [] 4 := by
  intro n_
  induction n_ with
  | zero =>
    intro x1 x2 rv_ hR
    simp [f_X4_allCups_L4] at hR
  | succ n_ ih =>
    intro x1 x2 rv_ hR hk
    rw [f_X4_allCups_L4] at hR
    refine g_iload_n C dX4_allCups_4 rfl 5 rfl ?_
    refine g_aload_n C dX4_allCups_5 rfl 6 rfl ?_
    refine g_get (v := .int (S.1 0 0)) C (hiC hiA_4) 0 rfl rfl 9 (by decide) (List.mem_cons_of_mem _ wl_239) rfl rfl dX4_allCups_6 9 rfl ?_
    refine g_icmp_ge C dX4_allCups_9 hR 27 12 (by decide) rfl (fun c_9 hR => ?_) (fun c_9 hR => ?_)
    · obtain rfl := Option.some.inj hR
      refine g_lv [some (.ref (b 0)), some (.int x1), some (.int x2)] (lvLe.sm (lvLe.sm (lvLe.sm lvLe.nil))) ?_
      exact hk
    · refine g_iload_n C dX4_allCups_12 rfl 13 rfl ?_
      refine g_aload_n C dX4_allCups_13 rfl 14 rfl ?_
      refine g_get (v := .ref (b 4)) C (hiC hiA_4) 0 rfl rfl 3 (by decide) (List.mem_cons_of_mem _ wl_69) rfl rfl dX4_allCups_14 17 rfl ?_
      refine g_iload_n C dX4_allCups_17 rfl 18 rfl ?_
      obtain ⟨h_18, hR⟩ := opt_n hR
      refine g_iald (f := (S.1 4)) C 4 rfl h_18 dX4_allCups_18 19 rfl ?_
      refine g_iadd C dX4_allCups_19 20 rfl ?_
      refine g_istore_n C dX4_allCups_20 [_, _, _] (Nat.le_of_ble_eq_true rfl) rfl rfl 21 rfl ?_
      refine g_iinc C dX4_allCups_21 rfl 1 ic_1 [_, _, _] (Nat.le_of_ble_eq_true rfl) rfl rfl 24 rfl ?_
      refine g_goto C dX4_allCups_24 4 (by decide) ?_
      refine g_lv [some (.ref (b 0)), some (.int (x1 + ((S.1 4) (Int32.toNatClampNeg x2)))), some (.int (x2 + 1))] (lvLe.sm (lvLe.sm (lvLe.sm lvLe.nil))) ?_
      exact ih _ _ rv_ hR hk
def f_X4_allCups (S : (Nat → Nat → Int32) × (Nat → Nat → Int64)) (N_ : Nat) : Option (Int32) :=
  (f_X4_allCups_L4 S N_ N_ 0 0).bind fun v1 =>
  some v1.1
set_option maxRecDepth 100000 in
set_option maxHeartbeats 4000000 in
theorem k_X4_allCups (l : Launch) (g : gE) (b : Nat → Nat) (S : (Nat → Nat → Int32) × (Nat → Nat → Int64)) (N_ : Nat) (R_ : Int32) (hR : f_X4_allCups S N_ = some R_) : FnI l g yX4_allCups wA_X4_allCups { frames := 0, cells := 0, slots := 0, locals := 0 } [.ref (b 0)] (wM g b S) R_ (wM g b S) := by
  refine fEntry (As := [.ref (b 0)]) (maxL := 3) (ret := (some .int)) (by decide) rfl [some (.ref (b 0)), none, none] (Nat.le_of_ble_eq_true rfl) (lvInB.to (lvInB.sm (lvInB.nn (lvInB.nn lvInB.nil)))) ?_
  intro p e s m below meth c A C hr hlocks hname hA
  have C : Cx p s m _ c g A cX4_allCups 3 wA_X4_allCups RX4 := C
  rw [f_X4_allCups] at hR
  refine g_iconst C dX4_allCups_0 0 ic_0 1 rfl ?_
  refine g_istore_n C dX4_allCups_1 [_, _, _] (Nat.le_of_ble_eq_true rfl) rfl rfl 2 rfl ?_
  refine g_iconst C dX4_allCups_2 0 ic_0 3 rfl ?_
  refine g_istore_n C dX4_allCups_3 [_, _, _] (Nat.le_of_ble_eq_true rfl) rfl rfl 4 rfl ?_
  refine g_lv [some (.ref (b 0)), some (.int 0), some (.int 0)] (lvLe.sm (lvLe.sm (lvLe.sm lvLe.nil))) ?_
  obtain ⟨v1, hv1, hR⟩ := opt_b hR
  refine k_X4_allCups_L4 l g C N_ S N_ 0 0 _ hv1 ?_
  refine g_iload_n C dX4_allCups_27 rfl 28 rfl ?_
  obtain rfl := Option.some.inj hR
  exact g_iret C hr hlocks hA (by first | (dsimp only; done) | rfl) (by first | (dsimp only; done) | rfl) dX4_allCups_28
theorem hd_X4_count : yX4_count.cls = RX4 ∧ yX4_count.cls ≠ "java/lang/invoke/MethodHandle" ∧ yX4_count.cls ≠ "java/lang/invoke/VarHandle" ∧ (parseMethodDescriptor yX4_count.desc).map (fun d => d.parameters.length) = some 1 := by decide +kernel
def f_X4_count (S : (Nat → Nat → Int32) × (Nat → Nat → Int64)) (p0 : Int32) (N_ : Nat) : Option (Int32) :=
  if (b2i (f_X4_isIn p0 11 16)) = 0 then
    if (b2i (f_X4_isIn p0 20 23)) = 0 then
      if p0 = 0 then
        some (S.1 0 0)
      else
        if p0 = 1 then
          some (S.1 0 1)
        else
          if p0 = 2 then
            some (S.1 0 2)
          else
            if p0 = 3 then
              some (S.1 0 3)
            else
              if p0 = 4 then
                some (S.1 0 4)
              else
                if p0 = 5 then
                  (f_X4_allCups S N_).bind fun v1 =>
                  some v1
                else
                  if p0 = 6 then
                    (f_X4_allPoints S N_).bind fun v2 =>
                    some v2
                  else
                    if p0 = 7 then
                      some (S.1 0 5)
                    else
                      if p0 = 8 then
                        some (S.1 0 11)
                      else
                        some (-9)
    else
      if (p0 - 20) < 0 ∨ 4 ≤ (Int32.toNatClampNeg (p0 - 20)) then none else
      some ((S.1 6) (Int32.toNatClampNeg (p0 - 20)))
  else
    if (p0 - 10) < 0 ∨ 7 ≤ (Int32.toNatClampNeg (p0 - 10)) then none else
    some ((S.1 1) (Int32.toNatClampNeg (p0 - 10)))
set_option maxRecDepth 100000 in
set_option maxHeartbeats 4000000 in
theorem k_X4_count (l : Launch) (g : gE) (b : Nat → Nat) (S : (Nat → Nat → Int32) × (Nat → Nat → Int64)) (p0 : Int32) (N_ : Nat) (R_ : Int32) (hR : f_X4_count S p0 N_ = some R_) : FnI l g yX4_count wA_X4_count { frames := 1, cells := 0, slots := 0, locals := 22 } [.ref (b 0), .int p0] (wM g b S) R_ (wM g b S) := by
  refine fEntry (As := [.ref (b 0), .int p0]) (maxL := 2) (ret := (some .int)) (by decide) rfl [some (.ref (b 0)), some (.int p0)] (Nat.le_of_ble_eq_true rfl) (lvInB.to (lvInB.sm (lvInB.sm lvInB.nil))) ?_
  intro p e s m below meth c A C hr hlocks hname hA
  have C : Cx p s m _ c g A cX4_count 2 wA_X4_count RX4 := C
  rw [f_X4_count] at hR
  refine g_iload_n C dX4_count_0 rfl 1 rfl ?_
  refine g_bipush C dX4_count_1 11 bp_11 3 rfl ?_
  refine g_bipush C dX4_count_3 16 bp_16 5 rfl ?_
  refine g_callIR C (rn_S C (k_X4_isIn l g p0 11 16) (va_cwS 3 C.1.2.2.2.2 (gdS wl_232 wl_230 wl_231 wl_5) rfl rfl rfl hd_X4_isIn.2 ⟨Nat.le_of_ble_eq_true rfl, Nat.le_of_ble_eq_true rfl⟩) [] rfl rfl rfl rfl (Nat.le_of_ble_eq_true rfl) ⟨Nat.zero_le _, Nat.zero_le _⟩ dX4_count_5) 8 rfl ?_
  refine g_if_eq C dX4_count_8 hR 21 11 (by decide) rfl (fun c_8 hR => ?_) (fun c_8 hR => ?_)
  · refine g_iload_n C dX4_count_21 rfl 22 rfl ?_
    refine g_bipush C dX4_count_22 20 bp_20 24 rfl ?_
    refine g_bipush C dX4_count_24 23 bp_23 26 rfl ?_
    refine g_callIR C (rn_S C (k_X4_isIn l g p0 20 23) (va_cwS 3 C.1.2.2.2.2 (gdS wl_232 wl_230 wl_231 wl_5) rfl rfl rfl hd_X4_isIn.2 ⟨Nat.le_of_ble_eq_true rfl, Nat.le_of_ble_eq_true rfl⟩) [] rfl rfl rfl rfl (Nat.le_of_ble_eq_true rfl) ⟨Nat.zero_le _, Nat.zero_le _⟩ dX4_count_26) 29 rfl ?_
    refine g_if_eq C dX4_count_29 hR 42 32 (by decide) rfl (fun c_29 hR => ?_) (fun c_29 hR => ?_)
    · refine g_iload_n C dX4_count_42 rfl 43 rfl ?_
      rcases Decidable.em (p0 = 0) with c_43_0 | c_43_0
      · have hR := (if_pos c_43_0).symm.trans hR
        refine g_tableIn C dX4_count_43 0 c_43_0 (49) 92 (by decide) ?_
        refine g_aload_n C dX4_count_92 rfl 93 rfl ?_
        refine g_get (v := .int (S.1 0 0)) C (hiC hiA_4) 0 rfl rfl 9 (by decide) (List.mem_cons_of_mem _ wl_239) rfl rfl dX4_count_93 96 rfl ?_
        obtain rfl := Option.some.inj hR
        exact g_iret C hr hlocks hA (by first | (dsimp only; done) | rfl) (by first | (dsimp only; done) | rfl) dX4_count_96
      · have hR := (if_neg c_43_0).symm.trans hR
        rcases Decidable.em (p0 = 1) with c_43_1 | c_43_1
        · have hR := (if_pos c_43_1).symm.trans hR
          refine g_tableIn C dX4_count_43 1 c_43_1 (54) 97 (by decide) ?_
          refine g_aload_n C dX4_count_97 rfl 98 rfl ?_
          refine g_get (v := .int (S.1 0 1)) C (hiC hiA_4) 0 rfl rfl 10 (by decide) (List.mem_cons_of_mem _ wl_240) rfl rfl dX4_count_98 101 rfl ?_
          obtain rfl := Option.some.inj hR
          exact g_iret C hr hlocks hA (by first | (dsimp only; done) | rfl) (by first | (dsimp only; done) | rfl) dX4_count_101
        · have hR := (if_neg c_43_1).symm.trans hR
          rcases Decidable.em (p0 = 2) with c_43_2 | c_43_2
          · have hR := (if_pos c_43_2).symm.trans hR
            refine g_tableIn C dX4_count_43 2 c_43_2 (59) 102 (by decide) ?_
            refine g_aload_n C dX4_count_102 rfl 103 rfl ?_
            refine g_get (v := .int (S.1 0 2)) C (hiC hiA_4) 0 rfl rfl 11 (by decide) (List.mem_cons_of_mem _ wl_241) rfl rfl dX4_count_103 106 rfl ?_
            obtain rfl := Option.some.inj hR
            exact g_iret C hr hlocks hA (by first | (dsimp only; done) | rfl) (by first | (dsimp only; done) | rfl) dX4_count_106
          · have hR := (if_neg c_43_2).symm.trans hR
            rcases Decidable.em (p0 = 3) with c_43_3 | c_43_3
            · have hR := (if_pos c_43_3).symm.trans hR
              refine g_tableIn C dX4_count_43 3 c_43_3 (64) 107 (by decide) ?_
              refine g_aload_n C dX4_count_107 rfl 108 rfl ?_
              refine g_get (v := .int (S.1 0 3)) C (hiC hiA_4) 0 rfl rfl 12 (by decide) (List.mem_cons_of_mem _ wl_242) rfl rfl dX4_count_108 111 rfl ?_
              obtain rfl := Option.some.inj hR
              exact g_iret C hr hlocks hA (by first | (dsimp only; done) | rfl) (by first | (dsimp only; done) | rfl) dX4_count_111
            · have hR := (if_neg c_43_3).symm.trans hR
              rcases Decidable.em (p0 = 4) with c_43_4 | c_43_4
              · have hR := (if_pos c_43_4).symm.trans hR
                refine g_tableIn C dX4_count_43 4 c_43_4 (69) 112 (by decide) ?_
                refine g_aload_n C dX4_count_112 rfl 113 rfl ?_
                refine g_get (v := .int (S.1 0 4)) C (hiC hiA_4) 0 rfl rfl 13 (by decide) (List.mem_cons_of_mem _ wl_85) rfl rfl dX4_count_113 116 rfl ?_
                obtain rfl := Option.some.inj hR
                exact g_iret C hr hlocks hA (by first | (dsimp only; done) | rfl) (by first | (dsimp only; done) | rfl) dX4_count_116
              · have hR := (if_neg c_43_4).symm.trans hR
                rcases Decidable.em (p0 = 5) with c_43_5 | c_43_5
                · have hR := (if_pos c_43_5).symm.trans hR
                  refine g_tableIn C dX4_count_43 5 c_43_5 (74) 117 (by decide) ?_
                  refine g_aload_n C dX4_count_117 rfl 118 rfl ?_
                  obtain ⟨v1, hv1, hR⟩ := opt_b hR
                  refine g_callIR C (rn_V C (k_X4_allCups l g b S N_ v1 hv1) (cwV 0 C.1.2.2.2.2 (gdV wl_980 wl_977 wl_978 wl_979 wl_5) rfl rfl rfl hd_X4_allCups ⟨Nat.le_of_ble_eq_true rfl, Nat.le_of_ble_eq_true rfl⟩) 0 rfl rfl _ rg_C rg_n rfl rfl (Nat.le_of_ble_eq_true rfl) ⟨Nat.zero_le _, Nat.zero_le _⟩ dX4_count_118) 121 rfl ?_
                  obtain rfl := Option.some.inj hR
                  exact g_iret C hr hlocks hA (by first | (dsimp only; done) | rfl) (by first | (dsimp only; done) | rfl) dX4_count_121
                · have hR := (if_neg c_43_5).symm.trans hR
                  rcases Decidable.em (p0 = 6) with c_43_6 | c_43_6
                  · have hR := (if_pos c_43_6).symm.trans hR
                    refine g_tableIn C dX4_count_43 6 c_43_6 (79) 122 (by decide) ?_
                    refine g_aload_n C dX4_count_122 rfl 123 rfl ?_
                    obtain ⟨v2, hv2, hR⟩ := opt_b hR
                    refine g_callIR C (rn_V C (k_X4_allPoints l g b S N_ v2 hv2) (cwV 0 C.1.2.2.2.2 (gdV wl_329 wl_326 wl_327 wl_328 wl_5) rfl rfl rfl hd_X4_allPoints ⟨Nat.le_of_ble_eq_true rfl, Nat.le_of_ble_eq_true rfl⟩) 0 rfl rfl _ rg_C rg_n rfl rfl (Nat.le_of_ble_eq_true rfl) ⟨Nat.zero_le _, Nat.zero_le _⟩ dX4_count_123) 126 rfl ?_
                    obtain rfl := Option.some.inj hR
                    exact g_iret C hr hlocks hA (by first | (dsimp only; done) | rfl) (by first | (dsimp only; done) | rfl) dX4_count_126
                  · have hR := (if_neg c_43_6).symm.trans hR
                    rcases Decidable.em (p0 = 7) with c_43_7 | c_43_7
                    · have hR := (if_pos c_43_7).symm.trans hR
                      refine g_tableIn C dX4_count_43 7 c_43_7 (84) 127 (by decide) ?_
                      refine g_aload_n C dX4_count_127 rfl 128 rfl ?_
                      refine g_get (v := .int (S.1 0 5)) C (hiC hiA_4) 0 rfl rfl 18 (by decide) (List.mem_cons_of_mem _ wl_104) rfl rfl dX4_count_128 131 rfl ?_
                      obtain rfl := Option.some.inj hR
                      exact g_iret C hr hlocks hA (by first | (dsimp only; done) | rfl) (by first | (dsimp only; done) | rfl) dX4_count_131
                    · have hR := (if_neg c_43_7).symm.trans hR
                      rcases Decidable.em (p0 = 8) with c_43_8 | c_43_8
                      · have hR := (if_pos c_43_8).symm.trans hR
                        refine g_tableIn C dX4_count_43 8 c_43_8 (89) 132 (by decide) ?_
                        refine g_aload_n C dX4_count_132 rfl 133 rfl ?_
                        refine g_get (v := .int (S.1 0 11)) C (hiC hiA_4) 0 rfl rfl 30 (by decide) (List.mem_cons_of_mem _ wl_812) rfl rfl dX4_count_133 136 rfl ?_
                        obtain rfl := Option.some.inj hR
                        exact g_iret C hr hlocks hA (by first | (dsimp only; done) | rfl) (by first | (dsimp only; done) | rfl) dX4_count_136
                      · have hR := (if_neg c_43_8).symm.trans hR
                        refine g_tableD C dX4_count_43 [0, 1, 2, 3, 4, 5, 6, 7, 8] (ne_c c_43_0 (ne_c c_43_1 (ne_c c_43_2 (ne_c c_43_3 (ne_c c_43_4 (ne_c c_43_5 (ne_c c_43_6 (ne_c c_43_7 (ne_c c_43_8 ne_n))))))))) (by decide +kernel) (by decide +kernel) 137 (by decide) ?_
                        refine g_bipush C dX4_count_137 (-9) bp_m9 139 rfl ?_
                        obtain rfl := Option.some.inj hR
                        exact g_iret C hr hlocks hA (by first | (dsimp only; done) | rfl) (by first | (dsimp only; done) | rfl) dX4_count_139
    · refine g_aload_n C dX4_count_32 rfl 33 rfl ?_
      refine g_get (v := .ref (b 6)) C (hiC hiA_4) 0 rfl rfl 5 (by decide) (List.mem_cons_of_mem _ wl_71) rfl rfl dX4_count_33 36 rfl ?_
      refine g_iload_n C dX4_count_36 rfl 37 rfl ?_
      refine g_bipush C dX4_count_37 20 bp_20 39 rfl ?_
      refine g_isub C dX4_count_39 40 rfl ?_
      obtain ⟨h_40, hR⟩ := opt_n hR
      refine g_iald (f := (S.1 6)) C 6 rfl h_40 dX4_count_40 41 rfl ?_
      obtain rfl := Option.some.inj hR
      exact g_iret C hr hlocks hA (by first | (dsimp only; done) | rfl) (by first | (dsimp only; done) | rfl) dX4_count_41
  · refine g_aload_n C dX4_count_11 rfl 12 rfl ?_
    refine g_get (v := .ref (b 1)) C (hiC hiA_4) 0 rfl rfl 0 (by decide) (List.mem_cons_of_mem _ wl_66) rfl rfl dX4_count_12 15 rfl ?_
    refine g_iload_n C dX4_count_15 rfl 16 rfl ?_
    refine g_bipush C dX4_count_16 10 bp_10 18 rfl ?_
    refine g_isub C dX4_count_18 19 rfl ?_
    obtain ⟨h_19, hR⟩ := opt_n hR
    refine g_iald (f := (S.1 1)) C 1 rfl h_19 dX4_count_19 20 rfl ?_
    obtain rfl := Option.some.inj hR
    exact g_iret C hr hlocks hA (by first | (dsimp only; done) | rfl) (by first | (dsimp only; done) | rfl) dX4_count_20
