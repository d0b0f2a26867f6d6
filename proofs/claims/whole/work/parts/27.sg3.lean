theorem hd_X3_looking : yX3_looking.cls = RX3 ∧ yX3_looking.cls ≠ "java/lang/invoke/MethodHandle" ∧ yX3_looking.cls ≠ "java/lang/invoke/VarHandle" ∧ (parseMethodDescriptor yX3_looking.desc).map (fun d => d.parameters.length) = some 3 := by decide +kernel
def f_X3_looking (S : (Nat → Nat → Int32) × (Nat → Nat → Int64)) (p0 : Int32) (p1 : Int32) (p2 : Int32) (N_ : Nat) : Option (Int64 × ((Nat → Nat → Int32) × (Nat → Nat → Int64))) :=
  if (b2i (f_X3_isOneOf p0 4)) = 0 then
    if (f_X3_refusalInHand S false (f_X3_isOneOf p2 2)) = 0 then
      (f_X3_think S N_).bind fun v1 =>
      (f_X3_testWorth_0 v1 p0 p1 N_).bind fun v2 =>
      (f_X2_sumOfAll (v2.2.2 0) N_).bind fun v3 =>
      (f_X3_inLeastTerms v2.1 (10 * v3) p2 N_).bind fun v4 =>
      some (v4, v2.2)
    else
      some ((f_X3_refuseLong S (f_X3_refusalInHand S false (f_X3_isOneOf p2 2))).1, (f_X3_refuseLong S (f_X3_refusalInHand S false (f_X3_isOneOf p2 2))).2)
  else
    if (b2i (f_X3_isOneOf p1 3)) = 0 then
      if (f_X3_refusalInHand S false (f_X3_isOneOf p2 2)) = 0 then
        (f_X3_think S N_).bind fun v5 =>
        (f_X3_testWorth_0 v5 p0 p1 N_).bind fun v6 =>
        (f_X2_sumOfAll (v6.2.2 0) N_).bind fun v7 =>
        (f_X3_inLeastTerms v6.1 (10 * v7) p2 N_).bind fun v8 =>
        some (v8, v6.2)
      else
        some ((f_X3_refuseLong S (f_X3_refusalInHand S false (f_X3_isOneOf p2 2))).1, (f_X3_refuseLong S (f_X3_refusalInHand S false (f_X3_isOneOf p2 2))).2)
    else
      if (f_X3_refusalInHand S true (f_X3_isOneOf p2 2)) = 0 then
        (f_X3_think S N_).bind fun v9 =>
        (f_X3_testWorth_0 v9 p0 p1 N_).bind fun v10 =>
        (f_X2_sumOfAll (v10.2.2 0) N_).bind fun v11 =>
        (f_X3_inLeastTerms v10.1 (10 * v11) p2 N_).bind fun v12 =>
        some (v12, v10.2)
      else
        some ((f_X3_refuseLong S (f_X3_refusalInHand S true (f_X3_isOneOf p2 2))).1, (f_X3_refuseLong S (f_X3_refusalInHand S true (f_X3_isOneOf p2 2))).2)
set_option maxRecDepth 100000 in
set_option maxHeartbeats 4000000 in
theorem k_X3_looking (l : Launch) (g : gE) (b : Nat → Nat) (y : Nat → Nat → Nat) (S : (Nat → Nat → Int32) × (Nat → Nat → Int64)) (p0 : Int32) (p1 : Int32) (p2 : Int32) (N_ : Nat) (R_ : Int64 × ((Nat → Nat → Int32) × (Nat → Nat → Int64))) (hR : f_X3_looking S p0 p1 p2 N_ = some R_) : FnL l g yX3_looking wA_X3_looking { frames := 5, cells := 0, slots := 0, locals := 123 } [.ref (b 0), .int p0, .int p1, .int p2] (wC g b y S) R_.1 (wC g b y R_.2) := by
  refine fEntry (As := [.ref (b 0), .int p0, .int p1, .int p2]) (maxL := 5) (ret := (some .long)) (by decide) rfl [some (.ref (b 0)), some (.int p0), some (.int p1), some (.int p2), none] (Nat.le_of_ble_eq_true rfl) (lvInB.to (lvInB.sm (lvInB.sm (lvInB.sm (lvInB.sm (lvInB.nn lvInB.nil)))))) ?_
  intro p e s m below meth c A C hr hlocks hname hA
  have C : Cx p s m _ c g A cX3_looking 5 wA_X3_looking RX3 := C
  rw [f_X3_looking] at hR
  refine g_aload_n C dX3_looking_0 rfl 1 rfl ?_
  refine g_iload_n C dX3_looking_1 rfl 2 rfl ?_
  refine g_iconst C dX3_looking_2 4 ic_4 3 rfl ?_
  refine g_callIR C (rn_S C (k_X3_isOneOf l g p0 4) (va_cwS 2 C.1.2.2.2.2 (gdS wl_95 wl_93 wl_94 wl_2) rfl rfl rfl hd_X3_isOneOf.2 ⟨Nat.le_of_ble_eq_true rfl, Nat.le_of_ble_eq_true rfl⟩) [] rfl rfl rfl rfl (Nat.le_of_ble_eq_true rfl) ⟨Nat.zero_le _, Nat.zero_le _⟩ dX3_looking_3) 6 rfl ?_
  refine g_if_eq C dX3_looking_6 hR 21 9 (by decide) rfl (fun c_6 hR => ?_) (fun c_6 hR => ?_)
  · refine g_iconst C dX3_looking_21 0 ic_0 22 rfl ?_
    refine g_iload_n C dX3_looking_22 rfl 23 rfl ?_
    refine g_iconst C dX3_looking_23 2 ic_2 24 rfl ?_
    refine g_callIR C (rn_S C (k_X3_isOneOf l g p2 2) (va_cwS 2 C.1.2.2.2.2 (gdS wl_95 wl_93 wl_94 wl_2) rfl rfl rfl hd_X3_isOneOf.2 ⟨Nat.le_of_ble_eq_true rfl, Nat.le_of_ble_eq_true rfl⟩) [] rfl rfl rfl rfl (Nat.le_of_ble_eq_true rfl) ⟨Nat.zero_le _, Nat.zero_le _⟩ dX3_looking_24) 27 rfl ?_
    refine g_callIR C (rn_V C (k_X3_refusalInHand l g b y S false (f_X3_isOneOf p2 2)) (cwV 2 C.1.2.2.2.2 (gdV wl_353 wl_350 wl_351 wl_352 wl_2) rfl rfl rfl hd_X3_refusalInHand ⟨Nat.le_of_ble_eq_true rfl, Nat.le_of_ble_eq_true rfl⟩) 0 rfl rfl _ rg_C rg_n rfl rfl (Nat.le_of_ble_eq_true rfl) ⟨Nat.zero_le _, Nat.zero_le _⟩ dX3_looking_27) 30 rfl ?_
    refine g_istore C dX3_looking_30 [_, _, _, _, _] (Nat.le_of_ble_eq_true rfl) rfl rfl 32 rfl ?_
    refine g_iload C dX3_looking_32 rfl 34 rfl ?_
    refine g_if_eq C dX3_looking_34 hR 44 37 (by decide) rfl (fun c_34 hR => ?_) (fun c_34 hR => ?_)
    · refine g_aload_n C dX3_looking_44 rfl 45 rfl ?_
      obtain ⟨v1, hv1, hR⟩ := opt_b hR
      refine g_callV C (rn_V C (k_X3_think l g b y S N_ v1 hv1) (cwV 0 C.1.2.2.2.2 (gdV wl_403 wl_400 wl_401 wl_402 wl_2) rfl rfl rfl hd_X3_think ⟨Nat.le_of_ble_eq_true rfl, Nat.le_of_ble_eq_true rfl⟩) 0 rfl rfl _ rg_C rg_n rfl rfl (Nat.le_of_ble_eq_true rfl) ⟨Nat.zero_le _, Nat.zero_le _⟩ dX3_looking_45) (wC g b y v1) (rg_put (wC_len.trans wC_len.symm)) (rg_len (wC_len.trans wC_len.symm)) 48 rfl ?_
      refine g_aload_n C dX3_looking_48 rfl 49 rfl ?_
      refine g_iload_n C dX3_looking_49 rfl 50 rfl ?_
      refine g_iload_n C dX3_looking_50 rfl 51 rfl ?_
      refine g_aload_n C dX3_looking_51 rfl 52 rfl ?_
      refine g_get (v := .ref (b 24)) C (hiC hiA_3) 0 rfl rfl 11 (by decide) (List.mem_cons_of_mem _ wl_33) rfl rfl dX3_looking_52 55 rfl ?_
      obtain ⟨v2, hv2, hR⟩ := opt_b hR
      refine g_callL C (rn_V C (k_X3_testWorth_0 l g b y v1 p0 p1 N_ v2 hv2) (cwV 3 C.1.2.2.2.2 (gdV wl_590 wl_587 wl_588 wl_589 wl_2) rfl rfl rfl hd_X3_testWorth ⟨Nat.le_of_ble_eq_true rfl, Nat.le_of_ble_eq_true rfl⟩) 0 rfl rfl _ rg_C rg_n rfl rfl (Nat.le_of_ble_eq_true rfl) ⟨Nat.zero_le _, Nat.zero_le _⟩ dX3_looking_55) (wC g b y v2.2) (rg_put (wC_len.trans wC_len.symm)) (rg_len (wC_len.trans wC_len.symm)) 58 rfl ?_
      refine g_ldc2 C dX3_looking_58 (C.1.2.2.2.2 _ (List.mem_cons_of_mem _ wl_586)) 61 rfl ?_
      refine g_aload_n C dX3_looking_61 rfl 62 rfl ?_
      refine g_get (v := .ref (b 24)) C (hiC hiA_3) 0 rfl rfl 11 (by decide) (List.mem_cons_of_mem _ wl_33) rfl rfl dX3_looking_62 65 rfl ?_
      obtain ⟨v3, hv3, hR⟩ := opt_b hR
      refine g_callLR C (rn_VN C (k_X2_sumOfAll l g (b 24) (b 27) (v2.2.2 0) N_ v3 hv3) ⟨va_cnB 0 C.1.2.2.2.2 (gdA wl_478) rfl rfl rfl (nst C (List.mem_of_getElem? (i := 18) rfl)) (C.1.2.2.2.2 _ (List.mem_cons_of_mem _ wl_32)) hd_X2_sumOfAll.2 ⟨Nat.le_of_ble_eq_true rfl, Nat.le_of_ble_eq_true rfl⟩, C.1.2.2.2.2 _ (List.mem_cons_of_mem _ wl_476), C.1.2.2.2.2 _ (List.mem_cons_of_mem _ wl_477)⟩ 39 rfl rfl [39, 42] rfl rfl rfl rfl (Nat.le_of_ble_eq_true rfl) ⟨Nat.zero_le _, Nat.zero_le _⟩ dX3_looking_65) 68 rfl ?_
      refine g_lmul C dX3_looking_68 69 rfl ?_
      refine g_iload_n C dX3_looking_69 rfl 70 rfl ?_
      obtain ⟨v4, hv4, hR⟩ := opt_b hR
      refine g_callLR C (rn_S C (k_X3_inLeastTerms l g v2.1 (10 * v3) p2 N_ v4 hv4) (va_cwS 3 C.1.2.2.2.2 (gdS wl_481 wl_479 wl_480 wl_2) rfl rfl rfl hd_X3_inLeastTerms.2 ⟨Nat.le_of_ble_eq_true rfl, Nat.le_of_ble_eq_true rfl⟩) [] rfl rfl rfl rfl (Nat.le_of_ble_eq_true rfl) ⟨Nat.zero_le _, Nat.zero_le _⟩ dX3_looking_70) 73 rfl ?_
      obtain rfl := Option.some.inj hR
      exact g_lret C hr hlocks hA (by first | (dsimp only; done) | rfl) (by first | (dsimp only; done) | rfl) dX3_looking_73
    · refine g_aload_n C dX3_looking_37 rfl 38 rfl ?_
      refine g_iload C dX3_looking_38 rfl 40 rfl ?_
      refine g_callL C (rn_V C (k_X3_refuseLong l g b y S (f_X3_refusalInHand S false (f_X3_isOneOf p2 2))) (cwV 1 C.1.2.2.2.2 (gdV wl_453 wl_450 wl_451 wl_452 wl_2) rfl rfl rfl hd_X3_refuseLong ⟨Nat.le_of_ble_eq_true rfl, Nat.le_of_ble_eq_true rfl⟩) 0 rfl rfl _ rg_C rg_n rfl rfl (Nat.le_of_ble_eq_true rfl) ⟨Nat.zero_le _, Nat.zero_le _⟩ dX3_looking_40) (wC g b y ((f_X3_refuseLong S (f_X3_refusalInHand S false (f_X3_isOneOf p2 2))).2)) (rg_put (wC_len.trans wC_len.symm)) (rg_len (wC_len.trans wC_len.symm)) 43 rfl ?_
      obtain rfl := Option.some.inj hR
      exact g_lret C hr hlocks hA (by first | (dsimp only; done) | rfl) (by first | (dsimp only; done) | rfl) dX3_looking_43
  · refine g_iload_n C dX3_looking_9 rfl 10 rfl ?_
    refine g_iconst C dX3_looking_10 3 ic_3 11 rfl ?_
    refine g_callIR C (rn_S C (k_X3_isOneOf l g p1 3) (va_cwS 2 C.1.2.2.2.2 (gdS wl_95 wl_93 wl_94 wl_2) rfl rfl rfl hd_X3_isOneOf.2 ⟨Nat.le_of_ble_eq_true rfl, Nat.le_of_ble_eq_true rfl⟩) [] rfl rfl rfl rfl (Nat.le_of_ble_eq_true rfl) ⟨Nat.zero_le _, Nat.zero_le _⟩ dX3_looking_11) 14 rfl ?_
    refine g_if_eq C dX3_looking_14 hR 21 17 (by decide) rfl (fun c_14 hR => ?_) (fun c_14 hR => ?_)
    · refine g_iconst C dX3_looking_21 0 ic_0 22 rfl ?_
      refine g_iload_n C dX3_looking_22 rfl 23 rfl ?_
      refine g_iconst C dX3_looking_23 2 ic_2 24 rfl ?_
      refine g_callIR C (rn_S C (k_X3_isOneOf l g p2 2) (va_cwS 2 C.1.2.2.2.2 (gdS wl_95 wl_93 wl_94 wl_2) rfl rfl rfl hd_X3_isOneOf.2 ⟨Nat.le_of_ble_eq_true rfl, Nat.le_of_ble_eq_true rfl⟩) [] rfl rfl rfl rfl (Nat.le_of_ble_eq_true rfl) ⟨Nat.zero_le _, Nat.zero_le _⟩ dX3_looking_24) 27 rfl ?_
      refine g_callIR C (rn_V C (k_X3_refusalInHand l g b y S false (f_X3_isOneOf p2 2)) (cwV 2 C.1.2.2.2.2 (gdV wl_353 wl_350 wl_351 wl_352 wl_2) rfl rfl rfl hd_X3_refusalInHand ⟨Nat.le_of_ble_eq_true rfl, Nat.le_of_ble_eq_true rfl⟩) 0 rfl rfl _ rg_C rg_n rfl rfl (Nat.le_of_ble_eq_true rfl) ⟨Nat.zero_le _, Nat.zero_le _⟩ dX3_looking_27) 30 rfl ?_
      refine g_istore C dX3_looking_30 [_, _, _, _, _] (Nat.le_of_ble_eq_true rfl) rfl rfl 32 rfl ?_
      refine g_iload C dX3_looking_32 rfl 34 rfl ?_
      refine g_if_eq C dX3_looking_34 hR 44 37 (by decide) rfl (fun c_34 hR => ?_) (fun c_34 hR => ?_)
      · refine g_aload_n C dX3_looking_44 rfl 45 rfl ?_
        obtain ⟨v5, hv5, hR⟩ := opt_b hR
        refine g_callV C (rn_V C (k_X3_think l g b y S N_ v5 hv5) (cwV 0 C.1.2.2.2.2 (gdV wl_403 wl_400 wl_401 wl_402 wl_2) rfl rfl rfl hd_X3_think ⟨Nat.le_of_ble_eq_true rfl, Nat.le_of_ble_eq_true rfl⟩) 0 rfl rfl _ rg_C rg_n rfl rfl (Nat.le_of_ble_eq_true rfl) ⟨Nat.zero_le _, Nat.zero_le _⟩ dX3_looking_45) (wC g b y v5) (rg_put (wC_len.trans wC_len.symm)) (rg_len (wC_len.trans wC_len.symm)) 48 rfl ?_
        refine g_aload_n C dX3_looking_48 rfl 49 rfl ?_
        refine g_iload_n C dX3_looking_49 rfl 50 rfl ?_
        refine g_iload_n C dX3_looking_50 rfl 51 rfl ?_
        refine g_aload_n C dX3_looking_51 rfl 52 rfl ?_
        refine g_get (v := .ref (b 24)) C (hiC hiA_3) 0 rfl rfl 11 (by decide) (List.mem_cons_of_mem _ wl_33) rfl rfl dX3_looking_52 55 rfl ?_
        obtain ⟨v6, hv6, hR⟩ := opt_b hR
        refine g_callL C (rn_V C (k_X3_testWorth_0 l g b y v5 p0 p1 N_ v6 hv6) (cwV 3 C.1.2.2.2.2 (gdV wl_590 wl_587 wl_588 wl_589 wl_2) rfl rfl rfl hd_X3_testWorth ⟨Nat.le_of_ble_eq_true rfl, Nat.le_of_ble_eq_true rfl⟩) 0 rfl rfl _ rg_C rg_n rfl rfl (Nat.le_of_ble_eq_true rfl) ⟨Nat.zero_le _, Nat.zero_le _⟩ dX3_looking_55) (wC g b y v6.2) (rg_put (wC_len.trans wC_len.symm)) (rg_len (wC_len.trans wC_len.symm)) 58 rfl ?_
        refine g_ldc2 C dX3_looking_58 (C.1.2.2.2.2 _ (List.mem_cons_of_mem _ wl_586)) 61 rfl ?_
        refine g_aload_n C dX3_looking_61 rfl 62 rfl ?_
        refine g_get (v := .ref (b 24)) C (hiC hiA_3) 0 rfl rfl 11 (by decide) (List.mem_cons_of_mem _ wl_33) rfl rfl dX3_looking_62 65 rfl ?_
        obtain ⟨v7, hv7, hR⟩ := opt_b hR
        refine g_callLR C (rn_VN C (k_X2_sumOfAll l g (b 24) (b 27) (v6.2.2 0) N_ v7 hv7) ⟨va_cnB 0 C.1.2.2.2.2 (gdA wl_478) rfl rfl rfl (nst C (List.mem_of_getElem? (i := 18) rfl)) (C.1.2.2.2.2 _ (List.mem_cons_of_mem _ wl_32)) hd_X2_sumOfAll.2 ⟨Nat.le_of_ble_eq_true rfl, Nat.le_of_ble_eq_true rfl⟩, C.1.2.2.2.2 _ (List.mem_cons_of_mem _ wl_476), C.1.2.2.2.2 _ (List.mem_cons_of_mem _ wl_477)⟩ 39 rfl rfl [39, 42] rfl rfl rfl rfl (Nat.le_of_ble_eq_true rfl) ⟨Nat.zero_le _, Nat.zero_le _⟩ dX3_looking_65) 68 rfl ?_
        refine g_lmul C dX3_looking_68 69 rfl ?_
        refine g_iload_n C dX3_looking_69 rfl 70 rfl ?_
        obtain ⟨v8, hv8, hR⟩ := opt_b hR
        refine g_callLR C (rn_S C (k_X3_inLeastTerms l g v6.1 (10 * v7) p2 N_ v8 hv8) (va_cwS 3 C.1.2.2.2.2 (gdS wl_481 wl_479 wl_480 wl_2) rfl rfl rfl hd_X3_inLeastTerms.2 ⟨Nat.le_of_ble_eq_true rfl, Nat.le_of_ble_eq_true rfl⟩) [] rfl rfl rfl rfl (Nat.le_of_ble_eq_true rfl) ⟨Nat.zero_le _, Nat.zero_le _⟩ dX3_looking_70) 73 rfl ?_
        obtain rfl := Option.some.inj hR
        exact g_lret C hr hlocks hA (by first | (dsimp only; done) | rfl) (by first | (dsimp only; done) | rfl) dX3_looking_73
      · refine g_aload_n C dX3_looking_37 rfl 38 rfl ?_
        refine g_iload C dX3_looking_38 rfl 40 rfl ?_
        refine g_callL C (rn_V C (k_X3_refuseLong l g b y S (f_X3_refusalInHand S false (f_X3_isOneOf p2 2))) (cwV 1 C.1.2.2.2.2 (gdV wl_453 wl_450 wl_451 wl_452 wl_2) rfl rfl rfl hd_X3_refuseLong ⟨Nat.le_of_ble_eq_true rfl, Nat.le_of_ble_eq_true rfl⟩) 0 rfl rfl _ rg_C rg_n rfl rfl (Nat.le_of_ble_eq_true rfl) ⟨Nat.zero_le _, Nat.zero_le _⟩ dX3_looking_40) (wC g b y ((f_X3_refuseLong S (f_X3_refusalInHand S false (f_X3_isOneOf p2 2))).2)) (rg_put (wC_len.trans wC_len.symm)) (rg_len (wC_len.trans wC_len.symm)) 43 rfl ?_
        obtain rfl := Option.some.inj hR
        exact g_lret C hr hlocks hA (by first | (dsimp only; done) | rfl) (by first | (dsimp only; done) | rfl) dX3_looking_43
    · refine g_iconst C dX3_looking_17 1 ic_1 18 rfl ?_
      refine g_goto C dX3_looking_18 22 (by decide) ?_
      refine g_iload_n C dX3_looking_22 rfl 23 rfl ?_
      refine g_iconst C dX3_looking_23 2 ic_2 24 rfl ?_
      refine g_callIR C (rn_S C (k_X3_isOneOf l g p2 2) (va_cwS 2 C.1.2.2.2.2 (gdS wl_95 wl_93 wl_94 wl_2) rfl rfl rfl hd_X3_isOneOf.2 ⟨Nat.le_of_ble_eq_true rfl, Nat.le_of_ble_eq_true rfl⟩) [] rfl rfl rfl rfl (Nat.le_of_ble_eq_true rfl) ⟨Nat.zero_le _, Nat.zero_le _⟩ dX3_looking_24) 27 rfl ?_
      refine g_callIR C (rn_V C (k_X3_refusalInHand l g b y S true (f_X3_isOneOf p2 2)) (cwV 2 C.1.2.2.2.2 (gdV wl_353 wl_350 wl_351 wl_352 wl_2) rfl rfl rfl hd_X3_refusalInHand ⟨Nat.le_of_ble_eq_true rfl, Nat.le_of_ble_eq_true rfl⟩) 0 rfl rfl _ rg_C rg_n rfl rfl (Nat.le_of_ble_eq_true rfl) ⟨Nat.zero_le _, Nat.zero_le _⟩ dX3_looking_27) 30 rfl ?_
      refine g_istore C dX3_looking_30 [_, _, _, _, _] (Nat.le_of_ble_eq_true rfl) rfl rfl 32 rfl ?_
      refine g_iload C dX3_looking_32 rfl 34 rfl ?_
      refine g_if_eq C dX3_looking_34 hR 44 37 (by decide) rfl (fun c_34 hR => ?_) (fun c_34 hR => ?_)
      · refine g_aload_n C dX3_looking_44 rfl 45 rfl ?_
        obtain ⟨v9, hv9, hR⟩ := opt_b hR
        refine g_callV C (rn_V C (k_X3_think l g b y S N_ v9 hv9) (cwV 0 C.1.2.2.2.2 (gdV wl_403 wl_400 wl_401 wl_402 wl_2) rfl rfl rfl hd_X3_think ⟨Nat.le_of_ble_eq_true rfl, Nat.le_of_ble_eq_true rfl⟩) 0 rfl rfl _ rg_C rg_n rfl rfl (Nat.le_of_ble_eq_true rfl) ⟨Nat.zero_le _, Nat.zero_le _⟩ dX3_looking_45) (wC g b y v9) (rg_put (wC_len.trans wC_len.symm)) (rg_len (wC_len.trans wC_len.symm)) 48 rfl ?_
        refine g_aload_n C dX3_looking_48 rfl 49 rfl ?_
        refine g_iload_n C dX3_looking_49 rfl 50 rfl ?_
        refine g_iload_n C dX3_looking_50 rfl 51 rfl ?_
        refine g_aload_n C dX3_looking_51 rfl 52 rfl ?_
        refine g_get (v := .ref (b 24)) C (hiC hiA_3) 0 rfl rfl 11 (by decide) (List.mem_cons_of_mem _ wl_33) rfl rfl dX3_looking_52 55 rfl ?_
        obtain ⟨v10, hv10, hR⟩ := opt_b hR
        refine g_callL C (rn_V C (k_X3_testWorth_0 l g b y v9 p0 p1 N_ v10 hv10) (cwV 3 C.1.2.2.2.2 (gdV wl_590 wl_587 wl_588 wl_589 wl_2) rfl rfl rfl hd_X3_testWorth ⟨Nat.le_of_ble_eq_true rfl, Nat.le_of_ble_eq_true rfl⟩) 0 rfl rfl _ rg_C rg_n rfl rfl (Nat.le_of_ble_eq_true rfl) ⟨Nat.zero_le _, Nat.zero_le _⟩ dX3_looking_55) (wC g b y v10.2) (rg_put (wC_len.trans wC_len.symm)) (rg_len (wC_len.trans wC_len.symm)) 58 rfl ?_
        refine g_ldc2 C dX3_looking_58 (C.1.2.2.2.2 _ (List.mem_cons_of_mem _ wl_586)) 61 rfl ?_
        refine g_aload_n C dX3_looking_61 rfl 62 rfl ?_
        refine g_get (v := .ref (b 24)) C (hiC hiA_3) 0 rfl rfl 11 (by decide) (List.mem_cons_of_mem _ wl_33) rfl rfl dX3_looking_62 65 rfl ?_
        obtain ⟨v11, hv11, hR⟩ := opt_b hR
        refine g_callLR C (rn_VN C (k_X2_sumOfAll l g (b 24) (b 27) (v10.2.2 0) N_ v11 hv11) ⟨va_cnB 0 C.1.2.2.2.2 (gdA wl_478) rfl rfl rfl (nst C (List.mem_of_getElem? (i := 18) rfl)) (C.1.2.2.2.2 _ (List.mem_cons_of_mem _ wl_32)) hd_X2_sumOfAll.2 ⟨Nat.le_of_ble_eq_true rfl, Nat.le_of_ble_eq_true rfl⟩, C.1.2.2.2.2 _ (List.mem_cons_of_mem _ wl_476), C.1.2.2.2.2 _ (List.mem_cons_of_mem _ wl_477)⟩ 39 rfl rfl [39, 42] rfl rfl rfl rfl (Nat.le_of_ble_eq_true rfl) ⟨Nat.zero_le _, Nat.zero_le _⟩ dX3_looking_65) 68 rfl ?_
        refine g_lmul C dX3_looking_68 69 rfl ?_
        refine g_iload_n C dX3_looking_69 rfl 70 rfl ?_
        obtain ⟨v12, hv12, hR⟩ := opt_b hR
        refine g_callLR C (rn_S C (k_X3_inLeastTerms l g v10.1 (10 * v11) p2 N_ v12 hv12) (va_cwS 3 C.1.2.2.2.2 (gdS wl_481 wl_479 wl_480 wl_2) rfl rfl rfl hd_X3_inLeastTerms.2 ⟨Nat.le_of_ble_eq_true rfl, Nat.le_of_ble_eq_true rfl⟩) [] rfl rfl rfl rfl (Nat.le_of_ble_eq_true rfl) ⟨Nat.zero_le _, Nat.zero_le _⟩ dX3_looking_70) 73 rfl ?_
        obtain rfl := Option.some.inj hR
        exact g_lret C hr hlocks hA (by first | (dsimp only; done) | rfl) (by first | (dsimp only; done) | rfl) dX3_looking_73
      · refine g_aload_n C dX3_looking_37 rfl 38 rfl ?_
        refine g_iload C dX3_looking_38 rfl 40 rfl ?_
        refine g_callL C (rn_V C (k_X3_refuseLong l g b y S (f_X3_refusalInHand S true (f_X3_isOneOf p2 2))) (cwV 1 C.1.2.2.2.2 (gdV wl_453 wl_450 wl_451 wl_452 wl_2) rfl rfl rfl hd_X3_refuseLong ⟨Nat.le_of_ble_eq_true rfl, Nat.le_of_ble_eq_true rfl⟩) 0 rfl rfl _ rg_C rg_n rfl rfl (Nat.le_of_ble_eq_true rfl) ⟨Nat.zero_le _, Nat.zero_le _⟩ dX3_looking_40) (wC g b y ((f_X3_refuseLong S (f_X3_refusalInHand S true (f_X3_isOneOf p2 2))).2)) (rg_put (wC_len.trans wC_len.symm)) (rg_len (wC_len.trans wC_len.symm)) 43 rfl ?_
        obtain rfl := Option.some.inj hR
        exact g_lret C hr hlocks hA (by first | (dsimp only; done) | rfl) (by first | (dsimp only; done) | rfl) dX3_looking_43
theorem hd_X3_bestTest : yX3_bestTest.cls = RX3 ∧ yX3_bestTest.cls ≠ "java/lang/invoke/MethodHandle" ∧ yX3_bestTest.cls ≠ "java/lang/invoke/VarHandle" ∧ (parseMethodDescriptor yX3_bestTest.desc).map (fun d => d.parameters.length) = some 1 := by decide +kernel
def f_X3_bestTest_L34 (x1 : Int32) (N_ : Nat) : Nat → Int32 → Int64 → Int32 → ((Nat → Nat → Int32) × (Nat → Nat → Int64)) → Option (Int32 × Int64 × Int32 × ((Nat → Nat → Int32) × (Nat → Nat → Int64)))
  | 0, _, _, _, _ => none
  | n_ + 1, x3, x4, x6, S =>
    if 4 ≤ x6 then
      some (x3, x4, x6, S)
    else
      (f_X3_testWorth_0 S x6 x1 N_).bind fun v4 =>
      if (lg_cmp v4.1 x4) ≤ 0 then
        f_X3_bestTest_L34 x1 N_ n_ x3 x4 (x6 + 1) v4.2
      else
        f_X3_bestTest_L34 x1 N_ n_ x6 v4.1 (x6 + 1) v4.2
set_option maxRecDepth 100000 in
set_option maxHeartbeats 4000000 in
theorem k_X3_bestTest_L34 (l : Launch) (g : gE) {p : Program} {e : Env} {s : State} {m : MethodId} {args : Array Value} {below : List Frame} {meth : Method} {c : Code} {Q : State → Prop} {A : Nat → Prop} {b : Nat → Nat}  (C : Cx p s m args c g A cX3_bestTest 9 wA_X3_bestTest RX3) (N_ : Nat) (x1 : Int32) (x2 : Int32) (y : Nat → Nat → Nat) : ∀ (n_ : Nat) (x3 : Int32) (x4 : Int64) (x6 : Int32) (S : (Nat → Nat → Int32) × (Nat → Nat → Int64)) (rv_ : Int32 × Int64 × Int32 × ((Nat → Nat → Int32) × (Nat → Nat → Int64))), f_X3_bestTest_L34 x1 N_ n_ x3 x4 x6 S = some rv_ → (Gm p l e (headSpec wA_X3_bestTest ({ frames := 5, cells := 0, slots := 0, locals := 123 } : Room)).room s m args below meth c Q g A 9 0 0 (wC g b y rv_.2.2.2) [some (.ref (b 0)), some (.int x1), some (.int x2), some (.int rv_.1), some (.long rv_.2.1), none, some (.int rv_.2.2.1), none, none] [] 74) → Gm p l e (headSpec wA_X3_bestTest ({ frames := 5, cells := 0, slots := 0, locals := 123 } : Room)).room s m args below meth c Q g A 9 0 0 (wC g b y S) [some (.ref (b 0)), some (.int x1), some (.int x2), some (.int x3), some (.long x4), none, some (.int x6), none, none] [] 34 := by
  intro n_
  induction n_ with
  | zero =>
    intro x3 x4 x6 S rv_ hR
    simp [f_X3_bestTest_L34] at hR
  | succ n_ ih =>
    intro x3 x4 x6 S rv_ hR hk
    rw [f_X3_bestTest_L34] at hR
    refine g_iload C dX3_bestTest_34 rfl 36 rfl ?_
    refine g_iconst C dX3_bestTest_36 4 ic_4 37 rfl ?_
    refine g_icmp_ge C dX3_bestTest_37 hR 74 40 (by decide) rfl (fun c_37 hR => ?_) (fun c_37 hR => ?_)
    · obtain rfl := Option.some.inj hR
      refine g_lv [some (.ref (b 0)), some (.int x1), some (.int x2), some (.int x3), some (.long x4), none, some (.int x6), none, none] (lvLe.sm (lvLe.sm (lvLe.sm (lvLe.sm (lvLe.sm (lvLe.nn (lvLe.sm (lvLe.nn (lvLe.nn lvLe.nil))))))))) ?_
      exact hk
    · refine g_aload_n C dX3_bestTest_40 rfl 41 rfl ?_
      refine g_iload C dX3_bestTest_41 rfl 43 rfl ?_
      refine g_iload_n C dX3_bestTest_43 rfl 44 rfl ?_
      refine g_aload_n C dX3_bestTest_44 rfl 45 rfl ?_
      refine g_get (v := .ref (b 24)) C (hiC hiA_3) 0 rfl rfl 11 (by decide) (List.mem_cons_of_mem _ wl_33) rfl rfl dX3_bestTest_45 48 rfl ?_
      obtain ⟨v4, hv4, hR⟩ := opt_b hR
      refine g_callL C (rn_V C (k_X3_testWorth_0 l g b y S x6 x1 N_ v4 hv4) (cwV 3 C.1.2.2.2.2 (gdV wl_590 wl_587 wl_588 wl_589 wl_2) rfl rfl rfl hd_X3_testWorth ⟨Nat.le_of_ble_eq_true rfl, Nat.le_of_ble_eq_true rfl⟩) 0 rfl rfl _ rg_C rg_n rfl rfl (Nat.le_of_ble_eq_true rfl) ⟨Nat.zero_le _, Nat.zero_le _⟩ dX3_bestTest_48) (wC g b y v4.2) (rg_put (wC_len.trans wC_len.symm)) (rg_len (wC_len.trans wC_len.symm)) 51 rfl ?_
      refine g_lstore C dX3_bestTest_51 [_, _, _, _, _, _, _, _, _] (Nat.le_of_ble_eq_true rfl) rfl rfl 53 rfl ?_
      refine g_lload C dX3_bestTest_53 rfl 55 rfl ?_
      refine g_lload C dX3_bestTest_55 rfl 57 rfl ?_
      refine g_lcmp C dX3_bestTest_57 58 rfl ?_
      refine g_if_le C dX3_bestTest_58 hR 68 61 (by decide) rfl (fun c_58 hR => ?_) (fun c_58 hR => ?_)
      · refine g_iinc C dX3_bestTest_68 rfl 1 ic_1 [_, _, _, _, _, _, _, _, _] (Nat.le_of_ble_eq_true rfl) rfl rfl 71 rfl ?_
        refine g_goto C dX3_bestTest_71 34 (by decide) ?_
        refine g_lv [some (.ref (b 0)), some (.int x1), some (.int x2), some (.int x3), some (.long x4), none, some (.int (x6 + 1)), none, none] (lvLe.sm (lvLe.sm (lvLe.sm (lvLe.sm (lvLe.sm (lvLe.nn (lvLe.sm (lvLe.nn (lvLe.nn lvLe.nil))))))))) ?_
        exact ih _ _ _ _ rv_ hR hk
      · refine g_lload C dX3_bestTest_61 rfl 63 rfl ?_
        refine g_lstore C dX3_bestTest_63 [_, _, _, _, _, _, _, _, _] (Nat.le_of_ble_eq_true rfl) rfl rfl 65 rfl ?_
        refine g_iload C dX3_bestTest_65 rfl 67 rfl ?_
        refine g_istore_n C dX3_bestTest_67 [_, _, _, _, _, _, _, _, _] (Nat.le_of_ble_eq_true rfl) rfl rfl 68 rfl ?_
        refine g_iinc C dX3_bestTest_68 rfl 1 ic_1 [_, _, _, _, _, _, _, _, _] (Nat.le_of_ble_eq_true rfl) rfl rfl 71 rfl ?_
        refine g_goto C dX3_bestTest_71 34 (by decide) ?_
        refine g_lv [some (.ref (b 0)), some (.int x1), some (.int x2), some (.int x6), some (.long v4.1), none, some (.int (x6 + 1)), none, none] (lvLe.sm (lvLe.sm (lvLe.sm (lvLe.sm (lvLe.sm (lvLe.nn (lvLe.sm (lvLe.nn (lvLe.nn lvLe.nil))))))))) ?_
        exact ih _ _ _ _ rv_ hR hk
def f_X3_bestTest (S : (Nat → Nat → Int32) × (Nat → Nat → Int64)) (p0 : Int32) (N_ : Nat) : Option (Int32 × ((Nat → Nat → Int32) × (Nat → Nat → Int64))) :=
  if (f_X3_refusalInHand S (f_X3_isOneOf p0 3) true) = 0 then
    (f_X3_think S N_).bind fun v1 =>
    (f_X3_bestTest_L34 p0 N_ N_ (-9) 0 0 v1).bind fun v5 =>
    some (v5.1, v5.2.2.2)
  else
    some ((f_X3_refuse S (f_X3_refusalInHand S (f_X3_isOneOf p0 3) true)).1, (f_X3_refuse S (f_X3_refusalInHand S (f_X3_isOneOf p0 3) true)).2)
set_option maxRecDepth 100000 in
set_option maxHeartbeats 4000000 in
theorem k_X3_bestTest (l : Launch) (g : gE) (b : Nat → Nat) (y : Nat → Nat → Nat) (S : (Nat → Nat → Int32) × (Nat → Nat → Int64)) (p0 : Int32) (N_ : Nat) (R_ : Int32 × ((Nat → Nat → Int32) × (Nat → Nat → Int64))) (hR : f_X3_bestTest S p0 N_ = some R_) : FnI l g yX3_bestTest wA_X3_bestTest { frames := 5, cells := 0, slots := 0, locals := 123 } [.ref (b 0), .int p0] (wC g b y S) R_.1 (wC g b y R_.2) := by
  refine fEntry (As := [.ref (b 0), .int p0]) (maxL := 9) (ret := (some .int)) (by decide) rfl [some (.ref (b 0)), some (.int p0), none, none, none, none, none, none, none] (Nat.le_of_ble_eq_true rfl) (lvInB.to (lvInB.sm (lvInB.sm (lvInB.nn (lvInB.nn (lvInB.nn (lvInB.nn (lvInB.nn (lvInB.nn (lvInB.nn lvInB.nil)))))))))) ?_
  intro p e s m below meth c A C hr hlocks hname hA
  have C : Cx p s m _ c g A cX3_bestTest 9 wA_X3_bestTest RX3 := C
  rw [f_X3_bestTest] at hR
  refine g_aload_n C dX3_bestTest_0 rfl 1 rfl ?_
  refine g_iload_n C dX3_bestTest_1 rfl 2 rfl ?_
  refine g_iconst C dX3_bestTest_2 3 ic_3 3 rfl ?_
  refine g_callIR C (rn_S C (k_X3_isOneOf l g p0 3) (va_cwS 2 C.1.2.2.2.2 (gdS wl_95 wl_93 wl_94 wl_2) rfl rfl rfl hd_X3_isOneOf.2 ⟨Nat.le_of_ble_eq_true rfl, Nat.le_of_ble_eq_true rfl⟩) [] rfl rfl rfl rfl (Nat.le_of_ble_eq_true rfl) ⟨Nat.zero_le _, Nat.zero_le _⟩ dX3_bestTest_3) 6 rfl ?_
  refine g_iconst C dX3_bestTest_6 1 ic_1 7 rfl ?_
  refine g_callIR C (rn_V C (k_X3_refusalInHand l g b y S (f_X3_isOneOf p0 3) true) (cwV 2 C.1.2.2.2.2 (gdV wl_353 wl_350 wl_351 wl_352 wl_2) rfl rfl rfl hd_X3_refusalInHand ⟨Nat.le_of_ble_eq_true rfl, Nat.le_of_ble_eq_true rfl⟩) 0 rfl rfl _ rg_C rg_n rfl rfl (Nat.le_of_ble_eq_true rfl) ⟨Nat.zero_le _, Nat.zero_le _⟩ dX3_bestTest_7) 10 rfl ?_
  refine g_istore_n C dX3_bestTest_10 [_, _, _, _, _, _, _, _, _] (Nat.le_of_ble_eq_true rfl) rfl rfl 11 rfl ?_
  refine g_iload_n C dX3_bestTest_11 rfl 12 rfl ?_
  refine g_if_eq C dX3_bestTest_12 hR 21 15 (by decide) rfl (fun c_12 hR => ?_) (fun c_12 hR => ?_)
  · refine g_aload_n C dX3_bestTest_21 rfl 22 rfl ?_
    obtain ⟨v1, hv1, hR⟩ := opt_b hR
    refine g_callV C (rn_V C (k_X3_think l g b y S N_ v1 hv1) (cwV 0 C.1.2.2.2.2 (gdV wl_403 wl_400 wl_401 wl_402 wl_2) rfl rfl rfl hd_X3_think ⟨Nat.le_of_ble_eq_true rfl, Nat.le_of_ble_eq_true rfl⟩) 0 rfl rfl _ rg_C rg_n rfl rfl (Nat.le_of_ble_eq_true rfl) ⟨Nat.zero_le _, Nat.zero_le _⟩ dX3_bestTest_22) (wC g b y v1) (rg_put (wC_len.trans wC_len.symm)) (rg_len (wC_len.trans wC_len.symm)) 25 rfl ?_
    refine g_bipush C dX3_bestTest_25 (-9) bp_m9 27 rfl ?_
    refine g_istore_n C dX3_bestTest_27 [_, _, _, _, _, _, _, _, _] (Nat.le_of_ble_eq_true rfl) rfl rfl 28 rfl ?_
    refine g_lconst C dX3_bestTest_28 0 (by decide) 29 rfl ?_
    refine g_lstore C dX3_bestTest_29 [_, _, _, _, _, _, _, _, _] (Nat.le_of_ble_eq_true rfl) rfl rfl 31 rfl ?_
    refine g_iconst C dX3_bestTest_31 0 ic_0 32 rfl ?_
    refine g_istore C dX3_bestTest_32 [_, _, _, _, _, _, _, _, _] (Nat.le_of_ble_eq_true rfl) rfl rfl 34 rfl ?_
    refine g_lv [some (.ref (b 0)), some (.int p0), some (.int (f_X3_refusalInHand S (f_X3_isOneOf p0 3) true)), some (.int (-9)), some (.long 0), none, some (.int 0), none, none] (lvLe.sm (lvLe.sm (lvLe.sm (lvLe.sm (lvLe.sm (lvLe.nn (lvLe.sm (lvLe.nn (lvLe.nn lvLe.nil))))))))) ?_
    obtain ⟨v5, hv5, hR⟩ := opt_b hR
    refine k_X3_bestTest_L34 l g C N_ p0 (f_X3_refusalInHand S (f_X3_isOneOf p0 3) true) y N_ (-9) 0 0 v1 _ hv5 ?_
    refine g_iload_n C dX3_bestTest_74 rfl 75 rfl ?_
    obtain rfl := Option.some.inj hR
    exact g_iret C hr hlocks hA (by first | (dsimp only; done) | rfl) (by first | (dsimp only; done) | rfl) dX3_bestTest_75
  · refine g_aload_n C dX3_bestTest_15 rfl 16 rfl ?_
    refine g_iload_n C dX3_bestTest_16 rfl 17 rfl ?_
    refine g_callI C (rn_V C (k_X3_refuse l g b y S (f_X3_refusalInHand S (f_X3_isOneOf p0 3) true)) (cwV 1 C.1.2.2.2.2 (gdV wl_99 wl_96 wl_97 wl_98 wl_2) rfl rfl rfl hd_X3_refuse ⟨Nat.le_of_ble_eq_true rfl, Nat.le_of_ble_eq_true rfl⟩) 0 rfl rfl _ rg_C rg_n rfl rfl (Nat.le_of_ble_eq_true rfl) ⟨Nat.zero_le _, Nat.zero_le _⟩ dX3_bestTest_17) (wC g b y ((f_X3_refuse S (f_X3_refusalInHand S (f_X3_isOneOf p0 3) true)).2)) (rg_put (wC_len.trans wC_len.symm)) (rg_len (wC_len.trans wC_len.symm)) 20 rfl ?_
    obtain rfl := Option.some.inj hR
    exact g_iret C hr hlocks hA (by first | (dsimp only; done) | rfl) (by first | (dsimp only; done) | rfl) dX3_bestTest_20
theorem hd_X3_two : yX3_two.cls = RX3 ∧ yX3_two.cls ≠ "java/lang/invoke/MethodHandle" ∧ yX3_two.cls ≠ "java/lang/invoke/VarHandle" ∧ (parseMethodDescriptor yX3_two.desc).map (fun d => d.parameters.length) = some 1 := by decide +kernel
def f_X3_two_L38 (x1 : Int32) (N_ : Nat) : Nat → Int32 → Int64 → Int32 → ((Nat → Nat → Int32) × (Nat → Nat → Int64)) → Option (Int32 × Int64 × Int32 × ((Nat → Nat → Int32) × (Nat → Nat → Int64)))
  | 0, _, _, _, _ => none
  | n_ + 1, x3, x4, x6, S =>
    if 16 ≤ x6 then
      some (x3, x4, x6, S)
    else
      (f_X3_pairWorth S x6 x1 N_).bind fun v5 =>
      if (lg_cmp v5.1 x4) ≤ 0 then
        f_X3_two_L38 x1 N_ n_ x3 x4 (x6 + 1) v5.2
      else
        f_X3_two_L38 x1 N_ n_ x6 v5.1 (x6 + 1) v5.2
set_option maxRecDepth 100000 in
set_option maxHeartbeats 4000000 in
theorem k_X3_two_L38 (l : Launch) (g : gE) {p : Program} {e : Env} {s : State} {m : MethodId} {args : Array Value} {below : List Frame} {meth : Method} {c : Code} {Q : State → Prop} {A : Nat → Prop} {b : Nat → Nat}  (C : Cx p s m args c g A cX3_two 9 wA_X3_two RX3) (N_ : Nat) (x1 : Int32) (x2 : Int32) (y : Nat → Nat → Nat) : ∀ (n_ : Nat) (x3 : Int32) (x4 : Int64) (x6 : Int32) (S : (Nat → Nat → Int32) × (Nat → Nat → Int64)) (rv_ : Int32 × Int64 × Int32 × ((Nat → Nat → Int32) × (Nat → Nat → Int64))), f_X3_two_L38 x1 N_ n_ x3 x4 x6 S = some rv_ → (Gm p l e (headSpec wA_X3_two ({ frames := 6, cells := 0, slots := 0, locals := 150 } : Room)).room s m args below meth c Q g A 9 0 0 (wC g b y rv_.2.2.2) [some (.ref (b 0)), some (.int x1), some (.int x2), some (.int rv_.1), some (.long rv_.2.1), none, some (.int rv_.2.2.1), none, none] [] 75) → Gm p l e (headSpec wA_X3_two ({ frames := 6, cells := 0, slots := 0, locals := 150 } : Room)).room s m args below meth c Q g A 9 0 0 (wC g b y S) [some (.ref (b 0)), some (.int x1), some (.int x2), some (.int x3), some (.long x4), none, some (.int x6), none, none] [] 38 := by
  intro n_
  induction n_ with
  | zero =>
    intro x3 x4 x6 S rv_ hR
    simp [f_X3_two_L38] at hR
  | succ n_ ih =>
    intro x3 x4 x6 S rv_ hR hk
    rw [f_X3_two_L38] at hR
    refine g_iload C dX3_two_38 rfl 40 rfl ?_
    refine g_bipush C dX3_two_40 16 bp_16 42 rfl ?_
    refine g_icmp_ge C dX3_two_42 hR 75 45 (by decide) rfl (fun c_42 hR => ?_) (fun c_42 hR => ?_)
    · obtain rfl := Option.some.inj hR
      refine g_lv [some (.ref (b 0)), some (.int x1), some (.int x2), some (.int x3), some (.long x4), none, some (.int x6), none, none] (lvLe.sm (lvLe.sm (lvLe.sm (lvLe.sm (lvLe.sm (lvLe.nn (lvLe.sm (lvLe.nn (lvLe.nn lvLe.nil))))))))) ?_
      exact hk
    · refine g_aload_n C dX3_two_45 rfl 46 rfl ?_
      refine g_iload C dX3_two_46 rfl 48 rfl ?_
      refine g_iload_n C dX3_two_48 rfl 49 rfl ?_
      obtain ⟨v5, hv5, hR⟩ := opt_b hR
      refine g_callL C (rn_V C (k_X3_pairWorth l g b y S x6 x1 N_ v5 hv5) (cwV 2 C.1.2.2.2.2 (gdV wl_633 wl_630 wl_631 wl_632 wl_2) rfl rfl rfl hd_X3_pairWorth ⟨Nat.le_of_ble_eq_true rfl, Nat.le_of_ble_eq_true rfl⟩) 0 rfl rfl _ rg_C rg_n rfl rfl (Nat.le_of_ble_eq_true rfl) ⟨Nat.zero_le _, Nat.zero_le _⟩ dX3_two_49) (wC g b y v5.2) (rg_put (wC_len.trans wC_len.symm)) (rg_len (wC_len.trans wC_len.symm)) 52 rfl ?_
      refine g_lstore C dX3_two_52 [_, _, _, _, _, _, _, _, _] (Nat.le_of_ble_eq_true rfl) rfl rfl 54 rfl ?_
      refine g_lload C dX3_two_54 rfl 56 rfl ?_
      refine g_lload C dX3_two_56 rfl 58 rfl ?_
      refine g_lcmp C dX3_two_58 59 rfl ?_
      refine g_if_le C dX3_two_59 hR 69 62 (by decide) rfl (fun c_59 hR => ?_) (fun c_59 hR => ?_)
      · refine g_iinc C dX3_two_69 rfl 1 ic_1 [_, _, _, _, _, _, _, _, _] (Nat.le_of_ble_eq_true rfl) rfl rfl 72 rfl ?_
        refine g_goto C dX3_two_72 38 (by decide) ?_
        refine g_lv [some (.ref (b 0)), some (.int x1), some (.int x2), some (.int x3), some (.long x4), none, some (.int (x6 + 1)), none, none] (lvLe.sm (lvLe.sm (lvLe.sm (lvLe.sm (lvLe.sm (lvLe.nn (lvLe.sm (lvLe.nn (lvLe.nn lvLe.nil))))))))) ?_
        exact ih _ _ _ _ rv_ hR hk
      · refine g_lload C dX3_two_62 rfl 64 rfl ?_
        refine g_lstore C dX3_two_64 [_, _, _, _, _, _, _, _, _] (Nat.le_of_ble_eq_true rfl) rfl rfl 66 rfl ?_
        refine g_iload C dX3_two_66 rfl 68 rfl ?_
        refine g_istore_n C dX3_two_68 [_, _, _, _, _, _, _, _, _] (Nat.le_of_ble_eq_true rfl) rfl rfl 69 rfl ?_
        refine g_iinc C dX3_two_69 rfl 1 ic_1 [_, _, _, _, _, _, _, _, _] (Nat.le_of_ble_eq_true rfl) rfl rfl 72 rfl ?_
        refine g_goto C dX3_two_72 38 (by decide) ?_
        refine g_lv [some (.ref (b 0)), some (.int x1), some (.int x2), some (.int x6), some (.long v5.1), none, some (.int (x6 + 1)), none, none] (lvLe.sm (lvLe.sm (lvLe.sm (lvLe.sm (lvLe.sm (lvLe.nn (lvLe.sm (lvLe.nn (lvLe.nn lvLe.nil))))))))) ?_
        exact ih _ _ _ _ rv_ hR hk
def f_X3_two (S : (Nat → Nat → Int32) × (Nat → Nat → Int64)) (p0 : Int32) (N_ : Nat) : Option (Int32 × ((Nat → Nat → Int32) × (Nat → Nat → Int64))) :=
  if (f_X3_refusalInHand S (f_X3_isOneOf p0 3) true) = 0 then
    (f_X3_think S N_).bind fun v1 =>
    (f_X3_pairWorth v1 0 p0 N_).bind fun v2 =>
    (f_X3_two_L38 p0 N_ N_ 0 v2.1 1 v2.2).bind fun v6 =>
    some (((10 * (v6.1 / 4)) + (v6.1 - v6.1 / 4 * 4)), v6.2.2.2)
  else
    some ((f_X3_refuse S (f_X3_refusalInHand S (f_X3_isOneOf p0 3) true)).1, (f_X3_refuse S (f_X3_refusalInHand S (f_X3_isOneOf p0 3) true)).2)
set_option maxRecDepth 100000 in
set_option maxHeartbeats 4000000 in
theorem k_X3_two (l : Launch) (g : gE) (b : Nat → Nat) (y : Nat → Nat → Nat) (S : (Nat → Nat → Int32) × (Nat → Nat → Int64)) (p0 : Int32) (N_ : Nat) (R_ : Int32 × ((Nat → Nat → Int32) × (Nat → Nat → Int64))) (hR : f_X3_two S p0 N_ = some R_) : FnI l g yX3_two wA_X3_two { frames := 6, cells := 0, slots := 0, locals := 150 } [.ref (b 0), .int p0] (wC g b y S) R_.1 (wC g b y R_.2) := by
  refine fEntry (As := [.ref (b 0), .int p0]) (maxL := 9) (ret := (some .int)) (by decide) rfl [some (.ref (b 0)), some (.int p0), none, none, none, none, none, none, none] (Nat.le_of_ble_eq_true rfl) (lvInB.to (lvInB.sm (lvInB.sm (lvInB.nn (lvInB.nn (lvInB.nn (lvInB.nn (lvInB.nn (lvInB.nn (lvInB.nn lvInB.nil)))))))))) ?_
  intro p e s m below meth c A C hr hlocks hname hA
  have C : Cx p s m _ c g A cX3_two 9 wA_X3_two RX3 := C
  rw [f_X3_two] at hR
  refine g_aload_n C dX3_two_0 rfl 1 rfl ?_
  refine g_iload_n C dX3_two_1 rfl 2 rfl ?_
  refine g_iconst C dX3_two_2 3 ic_3 3 rfl ?_
  refine g_callIR C (rn_S C (k_X3_isOneOf l g p0 3) (va_cwS 2 C.1.2.2.2.2 (gdS wl_95 wl_93 wl_94 wl_2) rfl rfl rfl hd_X3_isOneOf.2 ⟨Nat.le_of_ble_eq_true rfl, Nat.le_of_ble_eq_true rfl⟩) [] rfl rfl rfl rfl (Nat.le_of_ble_eq_true rfl) ⟨Nat.zero_le _, Nat.zero_le _⟩ dX3_two_3) 6 rfl ?_
  refine g_iconst C dX3_two_6 1 ic_1 7 rfl ?_
  refine g_callIR C (rn_V C (k_X3_refusalInHand l g b y S (f_X3_isOneOf p0 3) true) (cwV 2 C.1.2.2.2.2 (gdV wl_353 wl_350 wl_351 wl_352 wl_2) rfl rfl rfl hd_X3_refusalInHand ⟨Nat.le_of_ble_eq_true rfl, Nat.le_of_ble_eq_true rfl⟩) 0 rfl rfl _ rg_C rg_n rfl rfl (Nat.le_of_ble_eq_true rfl) ⟨Nat.zero_le _, Nat.zero_le _⟩ dX3_two_7) 10 rfl ?_
  refine g_istore_n C dX3_two_10 [_, _, _, _, _, _, _, _, _] (Nat.le_of_ble_eq_true rfl) rfl rfl 11 rfl ?_
  refine g_iload_n C dX3_two_11 rfl 12 rfl ?_
  refine g_if_eq C dX3_two_12 hR 21 15 (by decide) rfl (fun c_12 hR => ?_) (fun c_12 hR => ?_)
  · refine g_aload_n C dX3_two_21 rfl 22 rfl ?_
    obtain ⟨v1, hv1, hR⟩ := opt_b hR
    refine g_callV C (rn_V C (k_X3_think l g b y S N_ v1 hv1) (cwV 0 C.1.2.2.2.2 (gdV wl_403 wl_400 wl_401 wl_402 wl_2) rfl rfl rfl hd_X3_think ⟨Nat.le_of_ble_eq_true rfl, Nat.le_of_ble_eq_true rfl⟩) 0 rfl rfl _ rg_C rg_n rfl rfl (Nat.le_of_ble_eq_true rfl) ⟨Nat.zero_le _, Nat.zero_le _⟩ dX3_two_22) (wC g b y v1) (rg_put (wC_len.trans wC_len.symm)) (rg_len (wC_len.trans wC_len.symm)) 25 rfl ?_
    refine g_iconst C dX3_two_25 0 ic_0 26 rfl ?_
    refine g_istore_n C dX3_two_26 [_, _, _, _, _, _, _, _, _] (Nat.le_of_ble_eq_true rfl) rfl rfl 27 rfl ?_
    refine g_aload_n C dX3_two_27 rfl 28 rfl ?_
    refine g_iconst C dX3_two_28 0 ic_0 29 rfl ?_
    refine g_iload_n C dX3_two_29 rfl 30 rfl ?_
    obtain ⟨v2, hv2, hR⟩ := opt_b hR
    refine g_callL C (rn_V C (k_X3_pairWorth l g b y v1 0 p0 N_ v2 hv2) (cwV 2 C.1.2.2.2.2 (gdV wl_633 wl_630 wl_631 wl_632 wl_2) rfl rfl rfl hd_X3_pairWorth ⟨Nat.le_of_ble_eq_true rfl, Nat.le_of_ble_eq_true rfl⟩) 0 rfl rfl _ rg_C rg_n rfl rfl (Nat.le_of_ble_eq_true rfl) ⟨Nat.zero_le _, Nat.zero_le _⟩ dX3_two_30) (wC g b y v2.2) (rg_put (wC_len.trans wC_len.symm)) (rg_len (wC_len.trans wC_len.symm)) 33 rfl ?_
    refine g_lstore C dX3_two_33 [_, _, _, _, _, _, _, _, _] (Nat.le_of_ble_eq_true rfl) rfl rfl 35 rfl ?_
    refine g_iconst C dX3_two_35 1 ic_1 36 rfl ?_
    refine g_istore C dX3_two_36 [_, _, _, _, _, _, _, _, _] (Nat.le_of_ble_eq_true rfl) rfl rfl 38 rfl ?_
    refine g_lv [some (.ref (b 0)), some (.int p0), some (.int (f_X3_refusalInHand S (f_X3_isOneOf p0 3) true)), some (.int 0), some (.long v2.1), none, some (.int 1), none, none] (lvLe.sm (lvLe.sm (lvLe.sm (lvLe.sm (lvLe.sm (lvLe.nn (lvLe.sm (lvLe.nn (lvLe.nn lvLe.nil))))))))) ?_
    obtain ⟨v6, hv6, hR⟩ := opt_b hR
    refine k_X3_two_L38 l g C N_ p0 (f_X3_refusalInHand S (f_X3_isOneOf p0 3) true) y N_ 0 v2.1 1 v2.2 _ hv6 ?_
    refine g_bipush C dX3_two_75 10 bp_10 77 rfl ?_
    refine g_iload_n C dX3_two_77 rfl 78 rfl ?_
    refine g_iconst C dX3_two_78 4 ic_4 79 rfl ?_
    refine g_idiv C dX3_two_79 (by decide) 80 rfl ?_
    refine g_imul C dX3_two_80 81 rfl ?_
    refine g_iload_n C dX3_two_81 rfl 82 rfl ?_
    refine g_iconst C dX3_two_82 4 ic_4 83 rfl ?_
    refine g_irem C dX3_two_83 (by decide) 84 rfl ?_
    refine g_iadd C dX3_two_84 85 rfl ?_
    obtain rfl := Option.some.inj hR
    exact g_iret C hr hlocks hA (by first | (dsimp only; done) | rfl) (by first | (dsimp only; done) | rfl) dX3_two_85
  · refine g_aload_n C dX3_two_15 rfl 16 rfl ?_
    refine g_iload_n C dX3_two_16 rfl 17 rfl ?_
    refine g_callI C (rn_V C (k_X3_refuse l g b y S (f_X3_refusalInHand S (f_X3_isOneOf p0 3) true)) (cwV 1 C.1.2.2.2.2 (gdV wl_99 wl_96 wl_97 wl_98 wl_2) rfl rfl rfl hd_X3_refuse ⟨Nat.le_of_ble_eq_true rfl, Nat.le_of_ble_eq_true rfl⟩) 0 rfl rfl _ rg_C rg_n rfl rfl (Nat.le_of_ble_eq_true rfl) ⟨Nat.zero_le _, Nat.zero_le _⟩ dX3_two_17) (wC g b y ((f_X3_refuse S (f_X3_refusalInHand S (f_X3_isOneOf p0 3) true)).2)) (rg_put (wC_len.trans wC_len.symm)) (rg_len (wC_len.trans wC_len.symm)) 20 rfl ?_
    obtain rfl := Option.some.inj hR
    exact g_iret C hr hlocks hA (by first | (dsimp only; done) | rfl) (by first | (dsimp only; done) | rfl) dX3_two_20
theorem hd_X3_twoWorth : yX3_twoWorth.cls = RX3 ∧ yX3_twoWorth.cls ≠ "java/lang/invoke/MethodHandle" ∧ yX3_twoWorth.cls ≠ "java/lang/invoke/VarHandle" ∧ (parseMethodDescriptor yX3_twoWorth.desc).map (fun d => d.parameters.length) = some 2 := by decide +kernel
def f_X3_twoWorth_L40 (x1 : Int32) (N_ : Nat) : Nat → Int64 → Int32 → ((Nat → Nat → Int32) × (Nat → Nat → Int64)) → Option (Int64 × Int32 × ((Nat → Nat → Int32) × (Nat → Nat → Int64)))
  | 0, _, _, _ => none
  | n_ + 1, x4, x6, S =>
    if 16 ≤ x6 then
      some (x4, x6, S)
    else
      (f_X3_pairWorth S x6 x1 N_).bind fun v5 =>
      f_X3_twoWorth_L40 x1 N_ n_ (if v5.1 < x4 then x4 else v5.1) (x6 + 1) v5.2
set_option maxRecDepth 100000 in
set_option maxHeartbeats 4000000 in
theorem k_X3_twoWorth_L40 (l : Launch) (g : gE) {p : Program} {e : Env} {s : State} {m : MethodId} {args : Array Value} {below : List Frame} {meth : Method} {c : Code} {Q : State → Prop} {A : Nat → Prop} {b : Nat → Nat}  (C : Cx p s m args c g A cX3_twoWorth 7 wA_X3_twoWorth RX3) (N_ : Nat) (x1 : Int32) (x2 : Int32) (x3 : Int32) (y : Nat → Nat → Nat) : ∀ (n_ : Nat) (x4 : Int64) (x6 : Int32) (S : (Nat → Nat → Int32) × (Nat → Nat → Int64)) (rv_ : Int64 × Int32 × ((Nat → Nat → Int32) × (Nat → Nat → Int64))), f_X3_twoWorth_L40 x1 N_ n_ x4 x6 S = some rv_ → (Gm p l e (headSpec wA_X3_twoWorth ({ frames := 6, cells := 0, slots := 0, locals := 150 } : Room)).room s m args below meth c Q g A 7 0 0 (wC g b y rv_.2.2) [some (.ref (b 0)), some (.int x1), some (.int x2), some (.int x3), some (.long rv_.1), none, some (.int rv_.2.1)] [] 67) → Gm p l e (headSpec wA_X3_twoWorth ({ frames := 6, cells := 0, slots := 0, locals := 150 } : Room)).room s m args below meth c Q g A 7 0 0 (wC g b y S) [some (.ref (b 0)), some (.int x1), some (.int x2), some (.int x3), some (.long x4), none, some (.int x6)] [] 40 := by
  intro n_
  induction n_ with
  | zero =>
    intro x4 x6 S rv_ hR
    simp [f_X3_twoWorth_L40] at hR
  | succ n_ ih =>
    intro x4 x6 S rv_ hR hk
    rw [f_X3_twoWorth_L40] at hR
    refine g_iload C dX3_twoWorth_40 rfl 42 rfl ?_
    refine g_bipush C dX3_twoWorth_42 16 bp_16 44 rfl ?_
    refine g_icmp_ge C dX3_twoWorth_44 hR 67 47 (by decide) rfl (fun c_44 hR => ?_) (fun c_44 hR => ?_)
    · obtain rfl := Option.some.inj hR
      refine g_lv [some (.ref (b 0)), some (.int x1), some (.int x2), some (.int x3), some (.long x4), none, some (.int x6)] (lvLe.sm (lvLe.sm (lvLe.sm (lvLe.sm (lvLe.sm (lvLe.nn (lvLe.sm lvLe.nil))))))) ?_
      exact hk
    · refine g_lload C dX3_twoWorth_47 rfl 49 rfl ?_
      refine g_aload_n C dX3_twoWorth_49 rfl 50 rfl ?_
      refine g_iload C dX3_twoWorth_50 rfl 52 rfl ?_
      refine g_iload_n C dX3_twoWorth_52 rfl 53 rfl ?_
      obtain ⟨v5, hv5, hR⟩ := opt_b hR
      refine g_callL C (rn_V C (k_X3_pairWorth l g b y S x6 x1 N_ v5 hv5) (cwV 2 C.1.2.2.2.2 (gdV wl_633 wl_630 wl_631 wl_632 wl_2) rfl rfl rfl hd_X3_pairWorth ⟨Nat.le_of_ble_eq_true rfl, Nat.le_of_ble_eq_true rfl⟩) 0 rfl rfl _ rg_C rg_n rfl rfl (Nat.le_of_ble_eq_true rfl) ⟨Nat.zero_le _, Nat.zero_le _⟩ dX3_twoWorth_53) (wC g b y v5.2) (rg_put (wC_len.trans wC_len.symm)) (rg_len (wC_len.trans wC_len.symm)) 56 rfl ?_
      refine g_maxL C (List.mem_cons_of_mem _ wl_655) (List.mem_cons_of_mem _ wl_595) (List.mem_cons_of_mem _ wl_118) (List.mem_cons_of_mem _ wl_596) (Nat.le_of_ble_eq_true rfl) (Nat.le_of_ble_eq_true rfl) ⟨Nat.zero_le _, Nat.zero_le _⟩ dX3_twoWorth_56 59 rfl ?_
      refine g_lstore C dX3_twoWorth_59 [_, _, _, _, _, _, _] (Nat.le_of_ble_eq_true rfl) rfl rfl 61 rfl ?_
      refine g_iinc C dX3_twoWorth_61 rfl 1 ic_1 [_, _, _, _, _, _, _] (Nat.le_of_ble_eq_true rfl) rfl rfl 64 rfl ?_
      refine g_goto C dX3_twoWorth_64 40 (by decide) ?_
      refine g_lv [some (.ref (b 0)), some (.int x1), some (.int x2), some (.int x3), some (.long (if v5.1 < x4 then x4 else v5.1)), none, some (.int (x6 + 1))] (lvLe.sm (lvLe.sm (lvLe.sm (lvLe.sm (lvLe.sm (lvLe.nn (lvLe.sm lvLe.nil))))))) ?_
      exact ih _ _ _ rv_ hR hk
def f_X3_twoWorth (S : (Nat → Nat → Int32) × (Nat → Nat → Int64)) (p0 : Int32) (p1 : Int32) (N_ : Nat) : Option (Int64 × ((Nat → Nat → Int32) × (Nat → Nat → Int64))) :=
  if (f_X3_refusalInHand S (f_X3_isOneOf p0 3) (f_X3_isOneOf p1 2)) = 0 then
    (f_X3_think S N_).bind fun v1 =>
    (f_X3_pairWorth v1 0 p0 N_).bind fun v2 =>
    (f_X3_twoWorth_L40 p0 N_ N_ v2.1 1 v2.2).bind fun v6 =>
    (f_X2_sumOfAll (v6.2.2.2 0) N_).bind fun v7 =>
    (f_X3_inLeastTerms v6.1 (100 * v7) p1 N_).bind fun v8 =>
    some (v8, v6.2.2)
  else
    some ((f_X3_refuseLong S (f_X3_refusalInHand S (f_X3_isOneOf p0 3) (f_X3_isOneOf p1 2))).1, (f_X3_refuseLong S (f_X3_refusalInHand S (f_X3_isOneOf p0 3) (f_X3_isOneOf p1 2))).2)
set_option maxRecDepth 100000 in
set_option maxHeartbeats 4000000 in
theorem k_X3_twoWorth (l : Launch) (g : gE) (b : Nat → Nat) (y : Nat → Nat → Nat) (S : (Nat → Nat → Int32) × (Nat → Nat → Int64)) (p0 : Int32) (p1 : Int32) (N_ : Nat) (R_ : Int64 × ((Nat → Nat → Int32) × (Nat → Nat → Int64))) (hR : f_X3_twoWorth S p0 p1 N_ = some R_) : FnL l g yX3_twoWorth wA_X3_twoWorth { frames := 6, cells := 0, slots := 0, locals := 150 } [.ref (b 0), .int p0, .int p1] (wC g b y S) R_.1 (wC g b y R_.2) := by
  refine fEntry (As := [.ref (b 0), .int p0, .int p1]) (maxL := 7) (ret := (some .long)) (by decide) rfl [some (.ref (b 0)), some (.int p0), some (.int p1), none, none, none, none] (Nat.le_of_ble_eq_true rfl) (lvInB.to (lvInB.sm (lvInB.sm (lvInB.sm (lvInB.nn (lvInB.nn (lvInB.nn (lvInB.nn lvInB.nil)))))))) ?_
  intro p e s m below meth c A C hr hlocks hname hA
  have C : Cx p s m _ c g A cX3_twoWorth 7 wA_X3_twoWorth RX3 := C
  rw [f_X3_twoWorth] at hR
  refine g_aload_n C dX3_twoWorth_0 rfl 1 rfl ?_
  refine g_iload_n C dX3_twoWorth_1 rfl 2 rfl ?_
  refine g_iconst C dX3_twoWorth_2 3 ic_3 3 rfl ?_
  refine g_callIR C (rn_S C (k_X3_isOneOf l g p0 3) (va_cwS 2 C.1.2.2.2.2 (gdS wl_95 wl_93 wl_94 wl_2) rfl rfl rfl hd_X3_isOneOf.2 ⟨Nat.le_of_ble_eq_true rfl, Nat.le_of_ble_eq_true rfl⟩) [] rfl rfl rfl rfl (Nat.le_of_ble_eq_true rfl) ⟨Nat.zero_le _, Nat.zero_le _⟩ dX3_twoWorth_3) 6 rfl ?_
  refine g_iload_n C dX3_twoWorth_6 rfl 7 rfl ?_
  refine g_iconst C dX3_twoWorth_7 2 ic_2 8 rfl ?_
  refine g_callIR C (rn_S C (k_X3_isOneOf l g p1 2) (va_cwS 2 C.1.2.2.2.2 (gdS wl_95 wl_93 wl_94 wl_2) rfl rfl rfl hd_X3_isOneOf.2 ⟨Nat.le_of_ble_eq_true rfl, Nat.le_of_ble_eq_true rfl⟩) [] rfl rfl rfl rfl (Nat.le_of_ble_eq_true rfl) ⟨Nat.zero_le _, Nat.zero_le _⟩ dX3_twoWorth_8) 11 rfl ?_
  refine g_callIR C (rn_V C (k_X3_refusalInHand l g b y S (f_X3_isOneOf p0 3) (f_X3_isOneOf p1 2)) (cwV 2 C.1.2.2.2.2 (gdV wl_353 wl_350 wl_351 wl_352 wl_2) rfl rfl rfl hd_X3_refusalInHand ⟨Nat.le_of_ble_eq_true rfl, Nat.le_of_ble_eq_true rfl⟩) 0 rfl rfl _ rg_C rg_n rfl rfl (Nat.le_of_ble_eq_true rfl) ⟨Nat.zero_le _, Nat.zero_le _⟩ dX3_twoWorth_11) 14 rfl ?_
  refine g_istore_n C dX3_twoWorth_14 [_, _, _, _, _, _, _] (Nat.le_of_ble_eq_true rfl) rfl rfl 15 rfl ?_
  refine g_iload_n C dX3_twoWorth_15 rfl 16 rfl ?_
  refine g_if_eq C dX3_twoWorth_16 hR 25 19 (by decide) rfl (fun c_16 hR => ?_) (fun c_16 hR => ?_)
  · refine g_aload_n C dX3_twoWorth_25 rfl 26 rfl ?_
    obtain ⟨v1, hv1, hR⟩ := opt_b hR
    refine g_callV C (rn_V C (k_X3_think l g b y S N_ v1 hv1) (cwV 0 C.1.2.2.2.2 (gdV wl_403 wl_400 wl_401 wl_402 wl_2) rfl rfl rfl hd_X3_think ⟨Nat.le_of_ble_eq_true rfl, Nat.le_of_ble_eq_true rfl⟩) 0 rfl rfl _ rg_C rg_n rfl rfl (Nat.le_of_ble_eq_true rfl) ⟨Nat.zero_le _, Nat.zero_le _⟩ dX3_twoWorth_26) (wC g b y v1) (rg_put (wC_len.trans wC_len.symm)) (rg_len (wC_len.trans wC_len.symm)) 29 rfl ?_
    refine g_aload_n C dX3_twoWorth_29 rfl 30 rfl ?_
    refine g_iconst C dX3_twoWorth_30 0 ic_0 31 rfl ?_
    refine g_iload_n C dX3_twoWorth_31 rfl 32 rfl ?_
    obtain ⟨v2, hv2, hR⟩ := opt_b hR
    refine g_callL C (rn_V C (k_X3_pairWorth l g b y v1 0 p0 N_ v2 hv2) (cwV 2 C.1.2.2.2.2 (gdV wl_633 wl_630 wl_631 wl_632 wl_2) rfl rfl rfl hd_X3_pairWorth ⟨Nat.le_of_ble_eq_true rfl, Nat.le_of_ble_eq_true rfl⟩) 0 rfl rfl _ rg_C rg_n rfl rfl (Nat.le_of_ble_eq_true rfl) ⟨Nat.zero_le _, Nat.zero_le _⟩ dX3_twoWorth_32) (wC g b y v2.2) (rg_put (wC_len.trans wC_len.symm)) (rg_len (wC_len.trans wC_len.symm)) 35 rfl ?_
    refine g_lstore C dX3_twoWorth_35 [_, _, _, _, _, _, _] (Nat.le_of_ble_eq_true rfl) rfl rfl 37 rfl ?_
    refine g_iconst C dX3_twoWorth_37 1 ic_1 38 rfl ?_
    refine g_istore C dX3_twoWorth_38 [_, _, _, _, _, _, _] (Nat.le_of_ble_eq_true rfl) rfl rfl 40 rfl ?_
    refine g_lv [some (.ref (b 0)), some (.int p0), some (.int p1), some (.int (f_X3_refusalInHand S (f_X3_isOneOf p0 3) (f_X3_isOneOf p1 2))), some (.long v2.1), none, some (.int 1)] (lvLe.sm (lvLe.sm (lvLe.sm (lvLe.sm (lvLe.sm (lvLe.nn (lvLe.sm lvLe.nil))))))) ?_
    obtain ⟨v6, hv6, hR⟩ := opt_b hR
    refine k_X3_twoWorth_L40 l g C N_ p0 p1 (f_X3_refusalInHand S (f_X3_isOneOf p0 3) (f_X3_isOneOf p1 2)) y N_ v2.1 1 v2.2 _ hv6 ?_
    refine g_lload C dX3_twoWorth_67 rfl 69 rfl ?_
    refine g_ldc2 C dX3_twoWorth_69 (C.1.2.2.2.2 _ (List.mem_cons_of_mem _ wl_656)) 72 rfl ?_
    refine g_aload_n C dX3_twoWorth_72 rfl 73 rfl ?_
    refine g_get (v := .ref (b 24)) C (hiC hiA_3) 0 rfl rfl 11 (by decide) (List.mem_cons_of_mem _ wl_33) rfl rfl dX3_twoWorth_73 76 rfl ?_
    obtain ⟨v7, hv7, hR⟩ := opt_b hR
    refine g_callLR C (rn_VN C (k_X2_sumOfAll l g (b 24) (b 27) (v6.2.2.2 0) N_ v7 hv7) ⟨va_cnB 0 C.1.2.2.2.2 (gdA wl_478) rfl rfl rfl (nst C (List.mem_of_getElem? (i := 18) rfl)) (C.1.2.2.2.2 _ (List.mem_cons_of_mem _ wl_32)) hd_X2_sumOfAll.2 ⟨Nat.le_of_ble_eq_true rfl, Nat.le_of_ble_eq_true rfl⟩, C.1.2.2.2.2 _ (List.mem_cons_of_mem _ wl_476), C.1.2.2.2.2 _ (List.mem_cons_of_mem _ wl_477)⟩ 39 rfl rfl [39, 42] rfl rfl rfl rfl (Nat.le_of_ble_eq_true rfl) ⟨Nat.zero_le _, Nat.zero_le _⟩ dX3_twoWorth_76) 79 rfl ?_
    refine g_lmul C dX3_twoWorth_79 80 rfl ?_
    refine g_iload_n C dX3_twoWorth_80 rfl 81 rfl ?_
    obtain ⟨v8, hv8, hR⟩ := opt_b hR
    refine g_callLR C (rn_S C (k_X3_inLeastTerms l g v6.1 (100 * v7) p1 N_ v8 hv8) (va_cwS 3 C.1.2.2.2.2 (gdS wl_481 wl_479 wl_480 wl_2) rfl rfl rfl hd_X3_inLeastTerms.2 ⟨Nat.le_of_ble_eq_true rfl, Nat.le_of_ble_eq_true rfl⟩) [] rfl rfl rfl rfl (Nat.le_of_ble_eq_true rfl) ⟨Nat.zero_le _, Nat.zero_le _⟩ dX3_twoWorth_81) 84 rfl ?_
    obtain rfl := Option.some.inj hR
    exact g_lret C hr hlocks hA (by first | (dsimp only; done) | rfl) (by first | (dsimp only; done) | rfl) dX3_twoWorth_84
  · refine g_aload_n C dX3_twoWorth_19 rfl 20 rfl ?_
    refine g_iload_n C dX3_twoWorth_20 rfl 21 rfl ?_
    refine g_callL C (rn_V C (k_X3_refuseLong l g b y S (f_X3_refusalInHand S (f_X3_isOneOf p0 3) (f_X3_isOneOf p1 2))) (cwV 1 C.1.2.2.2.2 (gdV wl_453 wl_450 wl_451 wl_452 wl_2) rfl rfl rfl hd_X3_refuseLong ⟨Nat.le_of_ble_eq_true rfl, Nat.le_of_ble_eq_true rfl⟩) 0 rfl rfl _ rg_C rg_n rfl rfl (Nat.le_of_ble_eq_true rfl) ⟨Nat.zero_le _, Nat.zero_le _⟩ dX3_twoWorth_21) (wC g b y ((f_X3_refuseLong S (f_X3_refusalInHand S (f_X3_isOneOf p0 3) (f_X3_isOneOf p1 2))).2)) (rg_put (wC_len.trans wC_len.symm)) (rg_len (wC_len.trans wC_len.symm)) 24 rfl ?_
    obtain rfl := Option.some.inj hR
    exact g_lret C hr hlocks hA (by first | (dsimp only; done) | rfl) (by first | (dsimp only; done) | rfl) dX3_twoWorth_24
theorem hd_X3_free : yX3_free.cls = RX3 ∧ yX3_free.cls ≠ "java/lang/invoke/MethodHandle" ∧ yX3_free.cls ≠ "java/lang/invoke/VarHandle" ∧ (parseMethodDescriptor yX3_free.desc).map (fun d => d.parameters.length) = some 1 := by decide +kernel
def f_X3_free_L38 (x1 : Int32) (N_ : Nat) : Nat → Int32 → Int64 → Int32 → ((Nat → Nat → Int32) × (Nat → Nat → Int64)) → Option (Int32 × Int64 × Int32 × ((Nat → Nat → Int32) × (Nat → Nat → Int64)))
  | 0, _, _, _, _ => none
  | n_ + 1, x3, x4, x6, S =>
    if 4 ≤ x6 then
      some (x3, x4, x6, S)
    else
      (f_X3_firstWorth S x6 x1 N_).bind fun v5 =>
      if (lg_cmp v5.1 x4) ≤ 0 then
        f_X3_free_L38 x1 N_ n_ x3 x4 (x6 + 1) v5.2
      else
        f_X3_free_L38 x1 N_ n_ x6 v5.1 (x6 + 1) v5.2
set_option maxRecDepth 100000 in
set_option maxHeartbeats 4000000 in
theorem k_X3_free_L38 (l : Launch) (g : gE) {p : Program} {e : Env} {s : State} {m : MethodId} {args : Array Value} {below : List Frame} {meth : Method} {c : Code} {Q : State → Prop} {A : Nat → Prop} {b : Nat → Nat}  (C : Cx p s m args c g A cX3_free 9 wA_X3_free RX3) (N_ : Nat) (x1 : Int32) (x2 : Int32) (y : Nat → Nat → Nat) : ∀ (n_ : Nat) (x3 : Int32) (x4 : Int64) (x6 : Int32) (S : (Nat → Nat → Int32) × (Nat → Nat → Int64)) (rv_ : Int32 × Int64 × Int32 × ((Nat → Nat → Int32) × (Nat → Nat → Int64))), f_X3_free_L38 x1 N_ n_ x3 x4 x6 S = some rv_ → (Gm p l e (headSpec wA_X3_free ({ frames := 6, cells := 0, slots := 0, locals := 151 } : Room)).room s m args below meth c Q g A 9 0 0 (wC g b y rv_.2.2.2) [some (.ref (b 0)), some (.int x1), some (.int x2), some (.int rv_.1), some (.long rv_.2.1), none, some (.int rv_.2.2.1), none, none] [] 74) → Gm p l e (headSpec wA_X3_free ({ frames := 6, cells := 0, slots := 0, locals := 151 } : Room)).room s m args below meth c Q g A 9 0 0 (wC g b y S) [some (.ref (b 0)), some (.int x1), some (.int x2), some (.int x3), some (.long x4), none, some (.int x6), none, none] [] 38 := by
  intro n_
  induction n_ with
  | zero =>
    intro x3 x4 x6 S rv_ hR
    simp [f_X3_free_L38] at hR
  | succ n_ ih =>
    intro x3 x4 x6 S rv_ hR hk
    rw [f_X3_free_L38] at hR
    refine g_iload C dX3_free_38 rfl 40 rfl ?_
    refine g_iconst C dX3_free_40 4 ic_4 41 rfl ?_
    refine g_icmp_ge C dX3_free_41 hR 74 44 (by decide) rfl (fun c_41 hR => ?_) (fun c_41 hR => ?_)
    · obtain rfl := Option.some.inj hR
      refine g_lv [some (.ref (b 0)), some (.int x1), some (.int x2), some (.int x3), some (.long x4), none, some (.int x6), none, none] (lvLe.sm (lvLe.sm (lvLe.sm (lvLe.sm (lvLe.sm (lvLe.nn (lvLe.sm (lvLe.nn (lvLe.nn lvLe.nil))))))))) ?_
      exact hk
    · refine g_aload_n C dX3_free_44 rfl 45 rfl ?_
      refine g_iload C dX3_free_45 rfl 47 rfl ?_
      refine g_iload_n C dX3_free_47 rfl 48 rfl ?_
      obtain ⟨v5, hv5, hR⟩ := opt_b hR
      refine g_callL C (rn_V C (k_X3_firstWorth l g b y S x6 x1 N_ v5 hv5) (cwV 2 C.1.2.2.2.2 (gdV wl_672 wl_669 wl_670 wl_671 wl_2) rfl rfl rfl hd_X3_firstWorth ⟨Nat.le_of_ble_eq_true rfl, Nat.le_of_ble_eq_true rfl⟩) 0 rfl rfl _ rg_C rg_n rfl rfl (Nat.le_of_ble_eq_true rfl) ⟨Nat.zero_le _, Nat.zero_le _⟩ dX3_free_48) (wC g b y v5.2) (rg_put (wC_len.trans wC_len.symm)) (rg_len (wC_len.trans wC_len.symm)) 51 rfl ?_
      refine g_lstore C dX3_free_51 [_, _, _, _, _, _, _, _, _] (Nat.le_of_ble_eq_true rfl) rfl rfl 53 rfl ?_
      refine g_lload C dX3_free_53 rfl 55 rfl ?_
      refine g_lload C dX3_free_55 rfl 57 rfl ?_
      refine g_lcmp C dX3_free_57 58 rfl ?_
      refine g_if_le C dX3_free_58 hR 68 61 (by decide) rfl (fun c_58 hR => ?_) (fun c_58 hR => ?_)
      · refine g_iinc C dX3_free_68 rfl 1 ic_1 [_, _, _, _, _, _, _, _, _] (Nat.le_of_ble_eq_true rfl) rfl rfl 71 rfl ?_
        refine g_goto C dX3_free_71 38 (by decide) ?_
        refine g_lv [some (.ref (b 0)), some (.int x1), some (.int x2), some (.int x3), some (.long x4), none, some (.int (x6 + 1)), none, none] (lvLe.sm (lvLe.sm (lvLe.sm (lvLe.sm (lvLe.sm (lvLe.nn (lvLe.sm (lvLe.nn (lvLe.nn lvLe.nil))))))))) ?_
        exact ih _ _ _ _ rv_ hR hk
      · refine g_lload C dX3_free_61 rfl 63 rfl ?_
        refine g_lstore C dX3_free_63 [_, _, _, _, _, _, _, _, _] (Nat.le_of_ble_eq_true rfl) rfl rfl 65 rfl ?_
        refine g_iload C dX3_free_65 rfl 67 rfl ?_
        refine g_istore_n C dX3_free_67 [_, _, _, _, _, _, _, _, _] (Nat.le_of_ble_eq_true rfl) rfl rfl 68 rfl ?_
        refine g_iinc C dX3_free_68 rfl 1 ic_1 [_, _, _, _, _, _, _, _, _] (Nat.le_of_ble_eq_true rfl) rfl rfl 71 rfl ?_
        refine g_goto C dX3_free_71 38 (by decide) ?_
        refine g_lv [some (.ref (b 0)), some (.int x1), some (.int x2), some (.int x6), some (.long v5.1), none, some (.int (x6 + 1)), none, none] (lvLe.sm (lvLe.sm (lvLe.sm (lvLe.sm (lvLe.sm (lvLe.nn (lvLe.sm (lvLe.nn (lvLe.nn lvLe.nil))))))))) ?_
        exact ih _ _ _ _ rv_ hR hk
def f_X3_free (S : (Nat → Nat → Int32) × (Nat → Nat → Int64)) (p0 : Int32) (N_ : Nat) : Option (Int32 × ((Nat → Nat → Int32) × (Nat → Nat → Int64))) :=
  if (f_X3_refusalInHand S (f_X3_isOneOf p0 3) true) = 0 then
    (f_X3_think S N_).bind fun v1 =>
    (f_X3_firstWorth v1 0 p0 N_).bind fun v2 =>
    (f_X3_free_L38 p0 N_ N_ 0 v2.1 1 v2.2).bind fun v6 =>
    some (v6.1, v6.2.2.2)
  else
    some ((f_X3_refuse S (f_X3_refusalInHand S (f_X3_isOneOf p0 3) true)).1, (f_X3_refuse S (f_X3_refusalInHand S (f_X3_isOneOf p0 3) true)).2)
set_option maxRecDepth 100000 in
set_option maxHeartbeats 4000000 in
theorem k_X3_free (l : Launch) (g : gE) (b : Nat → Nat) (y : Nat → Nat → Nat) (S : (Nat → Nat → Int32) × (Nat → Nat → Int64)) (p0 : Int32) (N_ : Nat) (R_ : Int32 × ((Nat → Nat → Int32) × (Nat → Nat → Int64))) (hR : f_X3_free S p0 N_ = some R_) : FnI l g yX3_free wA_X3_free { frames := 6, cells := 0, slots := 0, locals := 151 } [.ref (b 0), .int p0] (wC g b y S) R_.1 (wC g b y R_.2) := by
  refine fEntry (As := [.ref (b 0), .int p0]) (maxL := 9) (ret := (some .int)) (by decide) rfl [some (.ref (b 0)), some (.int p0), none, none, none, none, none, none, none] (Nat.le_of_ble_eq_true rfl) (lvInB.to (lvInB.sm (lvInB.sm (lvInB.nn (lvInB.nn (lvInB.nn (lvInB.nn (lvInB.nn (lvInB.nn (lvInB.nn lvInB.nil)))))))))) ?_
  intro p e s m below meth c A C hr hlocks hname hA
  have C : Cx p s m _ c g A cX3_free 9 wA_X3_free RX3 := C
  rw [f_X3_free] at hR
  refine g_aload_n C dX3_free_0 rfl 1 rfl ?_
  refine g_iload_n C dX3_free_1 rfl 2 rfl ?_
  refine g_iconst C dX3_free_2 3 ic_3 3 rfl ?_
  refine g_callIR C (rn_S C (k_X3_isOneOf l g p0 3) (va_cwS 2 C.1.2.2.2.2 (gdS wl_95 wl_93 wl_94 wl_2) rfl rfl rfl hd_X3_isOneOf.2 ⟨Nat.le_of_ble_eq_true rfl, Nat.le_of_ble_eq_true rfl⟩) [] rfl rfl rfl rfl (Nat.le_of_ble_eq_true rfl) ⟨Nat.zero_le _, Nat.zero_le _⟩ dX3_free_3) 6 rfl ?_
  refine g_iconst C dX3_free_6 1 ic_1 7 rfl ?_
  refine g_callIR C (rn_V C (k_X3_refusalInHand l g b y S (f_X3_isOneOf p0 3) true) (cwV 2 C.1.2.2.2.2 (gdV wl_353 wl_350 wl_351 wl_352 wl_2) rfl rfl rfl hd_X3_refusalInHand ⟨Nat.le_of_ble_eq_true rfl, Nat.le_of_ble_eq_true rfl⟩) 0 rfl rfl _ rg_C rg_n rfl rfl (Nat.le_of_ble_eq_true rfl) ⟨Nat.zero_le _, Nat.zero_le _⟩ dX3_free_7) 10 rfl ?_
  refine g_istore_n C dX3_free_10 [_, _, _, _, _, _, _, _, _] (Nat.le_of_ble_eq_true rfl) rfl rfl 11 rfl ?_
  refine g_iload_n C dX3_free_11 rfl 12 rfl ?_
  refine g_if_eq C dX3_free_12 hR 21 15 (by decide) rfl (fun c_12 hR => ?_) (fun c_12 hR => ?_)
  · refine g_aload_n C dX3_free_21 rfl 22 rfl ?_
    obtain ⟨v1, hv1, hR⟩ := opt_b hR
    refine g_callV C (rn_V C (k_X3_think l g b y S N_ v1 hv1) (cwV 0 C.1.2.2.2.2 (gdV wl_403 wl_400 wl_401 wl_402 wl_2) rfl rfl rfl hd_X3_think ⟨Nat.le_of_ble_eq_true rfl, Nat.le_of_ble_eq_true rfl⟩) 0 rfl rfl _ rg_C rg_n rfl rfl (Nat.le_of_ble_eq_true rfl) ⟨Nat.zero_le _, Nat.zero_le _⟩ dX3_free_22) (wC g b y v1) (rg_put (wC_len.trans wC_len.symm)) (rg_len (wC_len.trans wC_len.symm)) 25 rfl ?_
    refine g_iconst C dX3_free_25 0 ic_0 26 rfl ?_
    refine g_istore_n C dX3_free_26 [_, _, _, _, _, _, _, _, _] (Nat.le_of_ble_eq_true rfl) rfl rfl 27 rfl ?_
    refine g_aload_n C dX3_free_27 rfl 28 rfl ?_
    refine g_iconst C dX3_free_28 0 ic_0 29 rfl ?_
    refine g_iload_n C dX3_free_29 rfl 30 rfl ?_
    obtain ⟨v2, hv2, hR⟩ := opt_b hR
    refine g_callL C (rn_V C (k_X3_firstWorth l g b y v1 0 p0 N_ v2 hv2) (cwV 2 C.1.2.2.2.2 (gdV wl_672 wl_669 wl_670 wl_671 wl_2) rfl rfl rfl hd_X3_firstWorth ⟨Nat.le_of_ble_eq_true rfl, Nat.le_of_ble_eq_true rfl⟩) 0 rfl rfl _ rg_C rg_n rfl rfl (Nat.le_of_ble_eq_true rfl) ⟨Nat.zero_le _, Nat.zero_le _⟩ dX3_free_30) (wC g b y v2.2) (rg_put (wC_len.trans wC_len.symm)) (rg_len (wC_len.trans wC_len.symm)) 33 rfl ?_
    refine g_lstore C dX3_free_33 [_, _, _, _, _, _, _, _, _] (Nat.le_of_ble_eq_true rfl) rfl rfl 35 rfl ?_
    refine g_iconst C dX3_free_35 1 ic_1 36 rfl ?_
    refine g_istore C dX3_free_36 [_, _, _, _, _, _, _, _, _] (Nat.le_of_ble_eq_true rfl) rfl rfl 38 rfl ?_
    refine g_lv [some (.ref (b 0)), some (.int p0), some (.int (f_X3_refusalInHand S (f_X3_isOneOf p0 3) true)), some (.int 0), some (.long v2.1), none, some (.int 1), none, none] (lvLe.sm (lvLe.sm (lvLe.sm (lvLe.sm (lvLe.sm (lvLe.nn (lvLe.sm (lvLe.nn (lvLe.nn lvLe.nil))))))))) ?_
    obtain ⟨v6, hv6, hR⟩ := opt_b hR
    refine k_X3_free_L38 l g C N_ p0 (f_X3_refusalInHand S (f_X3_isOneOf p0 3) true) y N_ 0 v2.1 1 v2.2 _ hv6 ?_
    refine g_iload_n C dX3_free_74 rfl 75 rfl ?_
    obtain rfl := Option.some.inj hR
    exact g_iret C hr hlocks hA (by first | (dsimp only; done) | rfl) (by first | (dsimp only; done) | rfl) dX3_free_75
  · refine g_aload_n C dX3_free_15 rfl 16 rfl ?_
    refine g_iload_n C dX3_free_16 rfl 17 rfl ?_
    refine g_callI C (rn_V C (k_X3_refuse l g b y S (f_X3_refusalInHand S (f_X3_isOneOf p0 3) true)) (cwV 1 C.1.2.2.2.2 (gdV wl_99 wl_96 wl_97 wl_98 wl_2) rfl rfl rfl hd_X3_refuse ⟨Nat.le_of_ble_eq_true rfl, Nat.le_of_ble_eq_true rfl⟩) 0 rfl rfl _ rg_C rg_n rfl rfl (Nat.le_of_ble_eq_true rfl) ⟨Nat.zero_le _, Nat.zero_le _⟩ dX3_free_17) (wC g b y ((f_X3_refuse S (f_X3_refusalInHand S (f_X3_isOneOf p0 3) true)).2)) (rg_put (wC_len.trans wC_len.symm)) (rg_len (wC_len.trans wC_len.symm)) 20 rfl ?_
    obtain rfl := Option.some.inj hR
    exact g_iret C hr hlocks hA (by first | (dsimp only; done) | rfl) (by first | (dsimp only; done) | rfl) dX3_free_20
theorem hd_X3_freeWorth : yX3_freeWorth.cls = RX3 ∧ yX3_freeWorth.cls ≠ "java/lang/invoke/MethodHandle" ∧ yX3_freeWorth.cls ≠ "java/lang/invoke/VarHandle" ∧ (parseMethodDescriptor yX3_freeWorth.desc).map (fun d => d.parameters.length) = some 2 := by decide +kernel
def f_X3_freeWorth_L40 (x1 : Int32) (N_ : Nat) : Nat → Int64 → Int32 → ((Nat → Nat → Int32) × (Nat → Nat → Int64)) → Option (Int64 × Int32 × ((Nat → Nat → Int32) × (Nat → Nat → Int64)))
  | 0, _, _, _ => none
  | n_ + 1, x4, x6, S =>
    if 4 ≤ x6 then
      some (x4, x6, S)
    else
      (f_X3_firstWorth S x6 x1 N_).bind fun v5 =>
      f_X3_freeWorth_L40 x1 N_ n_ (if v5.1 < x4 then x4 else v5.1) (x6 + 1) v5.2
set_option maxRecDepth 100000 in
set_option maxHeartbeats 4000000 in
theorem k_X3_freeWorth_L40 (l : Launch) (g : gE) {p : Program} {e : Env} {s : State} {m : MethodId} {args : Array Value} {below : List Frame} {meth : Method} {c : Code} {Q : State → Prop} {A : Nat → Prop} {b : Nat → Nat}  (C : Cx p s m args c g A cX3_freeWorth 7 wA_X3_freeWorth RX3) (N_ : Nat) (x1 : Int32) (x2 : Int32) (x3 : Int32) (y : Nat → Nat → Nat) : ∀ (n_ : Nat) (x4 : Int64) (x6 : Int32) (S : (Nat → Nat → Int32) × (Nat → Nat → Int64)) (rv_ : Int64 × Int32 × ((Nat → Nat → Int32) × (Nat → Nat → Int64))), f_X3_freeWorth_L40 x1 N_ n_ x4 x6 S = some rv_ → (Gm p l e (headSpec wA_X3_freeWorth ({ frames := 6, cells := 0, slots := 0, locals := 151 } : Room)).room s m args below meth c Q g A 7 0 0 (wC g b y rv_.2.2) [some (.ref (b 0)), some (.int x1), some (.int x2), some (.int x3), some (.long rv_.1), none, some (.int rv_.2.1)] [] 66) → Gm p l e (headSpec wA_X3_freeWorth ({ frames := 6, cells := 0, slots := 0, locals := 151 } : Room)).room s m args below meth c Q g A 7 0 0 (wC g b y S) [some (.ref (b 0)), some (.int x1), some (.int x2), some (.int x3), some (.long x4), none, some (.int x6)] [] 40 := by
  intro n_
  induction n_ with
  | zero =>
    intro x4 x6 S rv_ hR
    simp [f_X3_freeWorth_L40] at hR
  | succ n_ ih =>
    intro x4 x6 S rv_ hR hk
    rw [f_X3_freeWorth_L40] at hR
    refine g_iload C dX3_freeWorth_40 rfl 42 rfl ?_
    refine g_iconst C dX3_freeWorth_42 4 ic_4 43 rfl ?_
    refine g_icmp_ge C dX3_freeWorth_43 hR 66 46 (by decide) rfl (fun c_43 hR => ?_) (fun c_43 hR => ?_)
    · obtain rfl := Option.some.inj hR
      refine g_lv [some (.ref (b 0)), some (.int x1), some (.int x2), some (.int x3), some (.long x4), none, some (.int x6)] (lvLe.sm (lvLe.sm (lvLe.sm (lvLe.sm (lvLe.sm (lvLe.nn (lvLe.sm lvLe.nil))))))) ?_
      exact hk
    · refine g_lload C dX3_freeWorth_46 rfl 48 rfl ?_
      refine g_aload_n C dX3_freeWorth_48 rfl 49 rfl ?_
      refine g_iload C dX3_freeWorth_49 rfl 51 rfl ?_
      refine g_iload_n C dX3_freeWorth_51 rfl 52 rfl ?_
      obtain ⟨v5, hv5, hR⟩ := opt_b hR
      refine g_callL C (rn_V C (k_X3_firstWorth l g b y S x6 x1 N_ v5 hv5) (cwV 2 C.1.2.2.2.2 (gdV wl_672 wl_669 wl_670 wl_671 wl_2) rfl rfl rfl hd_X3_firstWorth ⟨Nat.le_of_ble_eq_true rfl, Nat.le_of_ble_eq_true rfl⟩) 0 rfl rfl _ rg_C rg_n rfl rfl (Nat.le_of_ble_eq_true rfl) ⟨Nat.zero_le _, Nat.zero_le _⟩ dX3_freeWorth_52) (wC g b y v5.2) (rg_put (wC_len.trans wC_len.symm)) (rg_len (wC_len.trans wC_len.symm)) 55 rfl ?_
      refine g_maxL C (List.mem_cons_of_mem _ wl_655) (List.mem_cons_of_mem _ wl_595) (List.mem_cons_of_mem _ wl_118) (List.mem_cons_of_mem _ wl_596) (Nat.le_of_ble_eq_true rfl) (Nat.le_of_ble_eq_true rfl) ⟨Nat.zero_le _, Nat.zero_le _⟩ dX3_freeWorth_55 58 rfl ?_
      refine g_lstore C dX3_freeWorth_58 [_, _, _, _, _, _, _] (Nat.le_of_ble_eq_true rfl) rfl rfl 60 rfl ?_
      refine g_iinc C dX3_freeWorth_60 rfl 1 ic_1 [_, _, _, _, _, _, _] (Nat.le_of_ble_eq_true rfl) rfl rfl 63 rfl ?_
      refine g_goto C dX3_freeWorth_63 40 (by decide) ?_
      refine g_lv [some (.ref (b 0)), some (.int x1), some (.int x2), some (.int x3), some (.long (if v5.1 < x4 then x4 else v5.1)), none, some (.int (x6 + 1))] (lvLe.sm (lvLe.sm (lvLe.sm (lvLe.sm (lvLe.sm (lvLe.nn (lvLe.sm lvLe.nil))))))) ?_
      exact ih _ _ _ rv_ hR hk
def f_X3_freeWorth (S : (Nat → Nat → Int32) × (Nat → Nat → Int64)) (p0 : Int32) (p1 : Int32) (N_ : Nat) : Option (Int64 × ((Nat → Nat → Int32) × (Nat → Nat → Int64))) :=
  if (f_X3_refusalInHand S (f_X3_isOneOf p0 3) (f_X3_isOneOf p1 2)) = 0 then
    (f_X3_think S N_).bind fun v1 =>
    (f_X3_firstWorth v1 0 p0 N_).bind fun v2 =>
    (f_X3_freeWorth_L40 p0 N_ N_ v2.1 1 v2.2).bind fun v6 =>
    (f_X2_sumOfAll (v6.2.2.2 0) N_).bind fun v7 =>
    (f_X3_inLeastTerms v6.1 (100 * v7) p1 N_).bind fun v8 =>
    some (v8, v6.2.2)
  else
    some ((f_X3_refuseLong S (f_X3_refusalInHand S (f_X3_isOneOf p0 3) (f_X3_isOneOf p1 2))).1, (f_X3_refuseLong S (f_X3_refusalInHand S (f_X3_isOneOf p0 3) (f_X3_isOneOf p1 2))).2)
set_option maxRecDepth 100000 in
set_option maxHeartbeats 4000000 in
theorem k_X3_freeWorth (l : Launch) (g : gE) (b : Nat → Nat) (y : Nat → Nat → Nat) (S : (Nat → Nat → Int32) × (Nat → Nat → Int64)) (p0 : Int32) (p1 : Int32) (N_ : Nat) (R_ : Int64 × ((Nat → Nat → Int32) × (Nat → Nat → Int64))) (hR : f_X3_freeWorth S p0 p1 N_ = some R_) : FnL l g yX3_freeWorth wA_X3_freeWorth { frames := 6, cells := 0, slots := 0, locals := 151 } [.ref (b 0), .int p0, .int p1] (wC g b y S) R_.1 (wC g b y R_.2) := by
  refine fEntry (As := [.ref (b 0), .int p0, .int p1]) (maxL := 7) (ret := (some .long)) (by decide) rfl [some (.ref (b 0)), some (.int p0), some (.int p1), none, none, none, none] (Nat.le_of_ble_eq_true rfl) (lvInB.to (lvInB.sm (lvInB.sm (lvInB.sm (lvInB.nn (lvInB.nn (lvInB.nn (lvInB.nn lvInB.nil)))))))) ?_
  intro p e s m below meth c A C hr hlocks hname hA
  have C : Cx p s m _ c g A cX3_freeWorth 7 wA_X3_freeWorth RX3 := C
  rw [f_X3_freeWorth] at hR
  refine g_aload_n C dX3_freeWorth_0 rfl 1 rfl ?_
  refine g_iload_n C dX3_freeWorth_1 rfl 2 rfl ?_
  refine g_iconst C dX3_freeWorth_2 3 ic_3 3 rfl ?_
  refine g_callIR C (rn_S C (k_X3_isOneOf l g p0 3) (va_cwS 2 C.1.2.2.2.2 (gdS wl_95 wl_93 wl_94 wl_2) rfl rfl rfl hd_X3_isOneOf.2 ⟨Nat.le_of_ble_eq_true rfl, Nat.le_of_ble_eq_true rfl⟩) [] rfl rfl rfl rfl (Nat.le_of_ble_eq_true rfl) ⟨Nat.zero_le _, Nat.zero_le _⟩ dX3_freeWorth_3) 6 rfl ?_
  refine g_iload_n C dX3_freeWorth_6 rfl 7 rfl ?_
  refine g_iconst C dX3_freeWorth_7 2 ic_2 8 rfl ?_
  refine g_callIR C (rn_S C (k_X3_isOneOf l g p1 2) (va_cwS 2 C.1.2.2.2.2 (gdS wl_95 wl_93 wl_94 wl_2) rfl rfl rfl hd_X3_isOneOf.2 ⟨Nat.le_of_ble_eq_true rfl, Nat.le_of_ble_eq_true rfl⟩) [] rfl rfl rfl rfl (Nat.le_of_ble_eq_true rfl) ⟨Nat.zero_le _, Nat.zero_le _⟩ dX3_freeWorth_8) 11 rfl ?_
  refine g_callIR C (rn_V C (k_X3_refusalInHand l g b y S (f_X3_isOneOf p0 3) (f_X3_isOneOf p1 2)) (cwV 2 C.1.2.2.2.2 (gdV wl_353 wl_350 wl_351 wl_352 wl_2) rfl rfl rfl hd_X3_refusalInHand ⟨Nat.le_of_ble_eq_true rfl, Nat.le_of_ble_eq_true rfl⟩) 0 rfl rfl _ rg_C rg_n rfl rfl (Nat.le_of_ble_eq_true rfl) ⟨Nat.zero_le _, Nat.zero_le _⟩ dX3_freeWorth_11) 14 rfl ?_
  refine g_istore_n C dX3_freeWorth_14 [_, _, _, _, _, _, _] (Nat.le_of_ble_eq_true rfl) rfl rfl 15 rfl ?_
  refine g_iload_n C dX3_freeWorth_15 rfl 16 rfl ?_
  refine g_if_eq C dX3_freeWorth_16 hR 25 19 (by decide) rfl (fun c_16 hR => ?_) (fun c_16 hR => ?_)
  · refine g_aload_n C dX3_freeWorth_25 rfl 26 rfl ?_
    obtain ⟨v1, hv1, hR⟩ := opt_b hR
    refine g_callV C (rn_V C (k_X3_think l g b y S N_ v1 hv1) (cwV 0 C.1.2.2.2.2 (gdV wl_403 wl_400 wl_401 wl_402 wl_2) rfl rfl rfl hd_X3_think ⟨Nat.le_of_ble_eq_true rfl, Nat.le_of_ble_eq_true rfl⟩) 0 rfl rfl _ rg_C rg_n rfl rfl (Nat.le_of_ble_eq_true rfl) ⟨Nat.zero_le _, Nat.zero_le _⟩ dX3_freeWorth_26) (wC g b y v1) (rg_put (wC_len.trans wC_len.symm)) (rg_len (wC_len.trans wC_len.symm)) 29 rfl ?_
    refine g_aload_n C dX3_freeWorth_29 rfl 30 rfl ?_
    refine g_iconst C dX3_freeWorth_30 0 ic_0 31 rfl ?_
    refine g_iload_n C dX3_freeWorth_31 rfl 32 rfl ?_
    obtain ⟨v2, hv2, hR⟩ := opt_b hR
    refine g_callL C (rn_V C (k_X3_firstWorth l g b y v1 0 p0 N_ v2 hv2) (cwV 2 C.1.2.2.2.2 (gdV wl_672 wl_669 wl_670 wl_671 wl_2) rfl rfl rfl hd_X3_firstWorth ⟨Nat.le_of_ble_eq_true rfl, Nat.le_of_ble_eq_true rfl⟩) 0 rfl rfl _ rg_C rg_n rfl rfl (Nat.le_of_ble_eq_true rfl) ⟨Nat.zero_le _, Nat.zero_le _⟩ dX3_freeWorth_32) (wC g b y v2.2) (rg_put (wC_len.trans wC_len.symm)) (rg_len (wC_len.trans wC_len.symm)) 35 rfl ?_
    refine g_lstore C dX3_freeWorth_35 [_, _, _, _, _, _, _] (Nat.le_of_ble_eq_true rfl) rfl rfl 37 rfl ?_
    refine g_iconst C dX3_freeWorth_37 1 ic_1 38 rfl ?_
    refine g_istore C dX3_freeWorth_38 [_, _, _, _, _, _, _] (Nat.le_of_ble_eq_true rfl) rfl rfl 40 rfl ?_
    refine g_lv [some (.ref (b 0)), some (.int p0), some (.int p1), some (.int (f_X3_refusalInHand S (f_X3_isOneOf p0 3) (f_X3_isOneOf p1 2))), some (.long v2.1), none, some (.int 1)] (lvLe.sm (lvLe.sm (lvLe.sm (lvLe.sm (lvLe.sm (lvLe.nn (lvLe.sm lvLe.nil))))))) ?_
    obtain ⟨v6, hv6, hR⟩ := opt_b hR
    refine k_X3_freeWorth_L40 l g C N_ p0 p1 (f_X3_refusalInHand S (f_X3_isOneOf p0 3) (f_X3_isOneOf p1 2)) y N_ v2.1 1 v2.2 _ hv6 ?_
    refine g_lload C dX3_freeWorth_66 rfl 68 rfl ?_
    refine g_ldc2 C dX3_freeWorth_68 (C.1.2.2.2.2 _ (List.mem_cons_of_mem _ wl_656)) 71 rfl ?_
    refine g_aload_n C dX3_freeWorth_71 rfl 72 rfl ?_
    refine g_get (v := .ref (b 24)) C (hiC hiA_3) 0 rfl rfl 11 (by decide) (List.mem_cons_of_mem _ wl_33) rfl rfl dX3_freeWorth_72 75 rfl ?_
    obtain ⟨v7, hv7, hR⟩ := opt_b hR
    refine g_callLR C (rn_VN C (k_X2_sumOfAll l g (b 24) (b 27) (v6.2.2.2 0) N_ v7 hv7) ⟨va_cnB 0 C.1.2.2.2.2 (gdA wl_478) rfl rfl rfl (nst C (List.mem_of_getElem? (i := 18) rfl)) (C.1.2.2.2.2 _ (List.mem_cons_of_mem _ wl_32)) hd_X2_sumOfAll.2 ⟨Nat.le_of_ble_eq_true rfl, Nat.le_of_ble_eq_true rfl⟩, C.1.2.2.2.2 _ (List.mem_cons_of_mem _ wl_476), C.1.2.2.2.2 _ (List.mem_cons_of_mem _ wl_477)⟩ 39 rfl rfl [39, 42] rfl rfl rfl rfl (Nat.le_of_ble_eq_true rfl) ⟨Nat.zero_le _, Nat.zero_le _⟩ dX3_freeWorth_75) 78 rfl ?_
    refine g_lmul C dX3_freeWorth_78 79 rfl ?_
    refine g_iload_n C dX3_freeWorth_79 rfl 80 rfl ?_
    obtain ⟨v8, hv8, hR⟩ := opt_b hR
    refine g_callLR C (rn_S C (k_X3_inLeastTerms l g v6.1 (100 * v7) p1 N_ v8 hv8) (va_cwS 3 C.1.2.2.2.2 (gdS wl_481 wl_479 wl_480 wl_2) rfl rfl rfl hd_X3_inLeastTerms.2 ⟨Nat.le_of_ble_eq_true rfl, Nat.le_of_ble_eq_true rfl⟩) [] rfl rfl rfl rfl (Nat.le_of_ble_eq_true rfl) ⟨Nat.zero_le _, Nat.zero_le _⟩ dX3_freeWorth_80) 83 rfl ?_
    obtain rfl := Option.some.inj hR
    exact g_lret C hr hlocks hA (by first | (dsimp only; done) | rfl) (by first | (dsimp only; done) | rfl) dX3_freeWorth_83
  · refine g_aload_n C dX3_freeWorth_19 rfl 20 rfl ?_
    refine g_iload_n C dX3_freeWorth_20 rfl 21 rfl ?_
    refine g_callL C (rn_V C (k_X3_refuseLong l g b y S (f_X3_refusalInHand S (f_X3_isOneOf p0 3) (f_X3_isOneOf p1 2))) (cwV 1 C.1.2.2.2.2 (gdV wl_453 wl_450 wl_451 wl_452 wl_2) rfl rfl rfl hd_X3_refuseLong ⟨Nat.le_of_ble_eq_true rfl, Nat.le_of_ble_eq_true rfl⟩) 0 rfl rfl _ rg_C rg_n rfl rfl (Nat.le_of_ble_eq_true rfl) ⟨Nat.zero_le _, Nat.zero_le _⟩ dX3_freeWorth_21) (wC g b y ((f_X3_refuseLong S (f_X3_refusalInHand S (f_X3_isOneOf p0 3) (f_X3_isOneOf p1 2))).2)) (rg_put (wC_len.trans wC_len.symm)) (rg_len (wC_len.trans wC_len.symm)) 24 rfl ?_
    obtain rfl := Option.some.inj hR
    exact g_lret C hr hlocks hA (by first | (dsimp only; done) | rfl) (by first | (dsimp only; done) | rfl) dX3_freeWorth_24
theorem hd_X3_useless : yX3_useless.cls = RX3 ∧ yX3_useless.cls ≠ "java/lang/invoke/MethodHandle" ∧ yX3_useless.cls ≠ "java/lang/invoke/VarHandle" ∧ (parseMethodDescriptor yX3_useless.desc).map (fun d => d.parameters.length) = some 1 := by decide +kernel
def f_X3_useless_L44 (x1 : Int32) (x3 : Int32) (N_ : Nat) : Nat → Int32 → Int32 → ((Nat → Nat → Int32) × (Nat → Nat → Int64)) → Option (Int32 × Int32 × ((Nat → Nat → Int32) × (Nat → Nat → Int64)))
  | 0, _, _, _ => none
  | n_ + 1, x4, x5, S =>
    if 4 ≤ x5 then
      some (x4, x5, S)
    else
      (f_X3_staysBest S x5 x1 x3 N_).bind fun v5 =>
      if (b2i v5.1) = 0 then
        f_X3_useless_L44 x1 x3 N_ n_ x4 (x5 + 1) v5.2
      else
        f_X3_useless_L44 x1 x3 N_ n_ (x4 ||| ((1 : Int32) <<< (x5 &&& 31))) (x5 + 1) v5.2
set_option maxRecDepth 100000 in
set_option maxHeartbeats 4000000 in
theorem k_X3_useless_L44 (l : Launch) (g : gE) {p : Program} {e : Env} {s : State} {m : MethodId} {args : Array Value} {below : List Frame} {meth : Method} {c : Code} {Q : State → Prop} {A : Nat → Prop} {b : Nat → Nat}  (C : Cx p s m args c g A cX3_useless 6 wA_X3_useless RX3) (N_ : Nat) (x1 : Int32) (x2 : Int32) (x3 : Int32) (y : Nat → Nat → Nat) : ∀ (n_ : Nat) (x4 : Int32) (x5 : Int32) (S : (Nat → Nat → Int32) × (Nat → Nat → Int64)) (rv_ : Int32 × Int32 × ((Nat → Nat → Int32) × (Nat → Nat → Int64))), f_X3_useless_L44 x1 x3 N_ n_ x4 x5 S = some rv_ → (Gm p l e (headSpec wA_X3_useless ({ frames := 5, cells := 0, slots := 0, locals := 124 } : Room)).room s m args below meth c Q g A 6 0 0 (wC g b y rv_.2.2) [some (.ref (b 0)), some (.int x1), some (.int x2), some (.int x3), some (.int rv_.1), some (.int rv_.2.1)] [] 76) → Gm p l e (headSpec wA_X3_useless ({ frames := 5, cells := 0, slots := 0, locals := 124 } : Room)).room s m args below meth c Q g A 6 0 0 (wC g b y S) [some (.ref (b 0)), some (.int x1), some (.int x2), some (.int x3), some (.int x4), some (.int x5)] [] 44 := by
  intro n_
  induction n_ with
  | zero =>
    intro x4 x5 S rv_ hR
    simp [f_X3_useless_L44] at hR
  | succ n_ ih =>
    intro x4 x5 S rv_ hR hk
    rw [f_X3_useless_L44] at hR
    refine g_iload C dX3_useless_44 rfl 46 rfl ?_
    refine g_iconst C dX3_useless_46 4 ic_4 47 rfl ?_
    refine g_icmp_ge C dX3_useless_47 hR 76 50 (by decide) rfl (fun c_47 hR => ?_) (fun c_47 hR => ?_)
    · obtain rfl := Option.some.inj hR
      refine g_lv [some (.ref (b 0)), some (.int x1), some (.int x2), some (.int x3), some (.int x4), some (.int x5)] (lvLe.sm (lvLe.sm (lvLe.sm (lvLe.sm (lvLe.sm (lvLe.sm lvLe.nil)))))) ?_
      exact hk
    · refine g_aload_n C dX3_useless_50 rfl 51 rfl ?_
      refine g_iload C dX3_useless_51 rfl 53 rfl ?_
      refine g_iload_n C dX3_useless_53 rfl 54 rfl ?_
      refine g_iload_n C dX3_useless_54 rfl 55 rfl ?_
      obtain ⟨v5, hv5, hR⟩ := opt_b hR
      refine g_callI C (rn_V C (k_X3_staysBest l g b y S x5 x1 x3 N_ v5 hv5) (cwV 3 C.1.2.2.2.2 (gdV wl_704 wl_701 wl_702 wl_703 wl_2) rfl rfl rfl hd_X3_staysBest ⟨Nat.le_of_ble_eq_true rfl, Nat.le_of_ble_eq_true rfl⟩) 0 rfl rfl _ rg_C rg_n rfl rfl (Nat.le_of_ble_eq_true rfl) ⟨Nat.zero_le _, Nat.zero_le _⟩ dX3_useless_55) (wC g b y v5.2) (rg_put (wC_len.trans wC_len.symm)) (rg_len (wC_len.trans wC_len.symm)) 58 rfl ?_
      refine g_if_eq C dX3_useless_58 hR 70 61 (by decide) rfl (fun c_58 hR => ?_) (fun c_58 hR => ?_)
      · refine g_iinc C dX3_useless_70 rfl 1 ic_1 [_, _, _, _, _, _] (Nat.le_of_ble_eq_true rfl) rfl rfl 73 rfl ?_
        refine g_goto C dX3_useless_73 44 (by decide) ?_
        refine g_lv [some (.ref (b 0)), some (.int x1), some (.int x2), some (.int x3), some (.int x4), some (.int (x5 + 1))] (lvLe.sm (lvLe.sm (lvLe.sm (lvLe.sm (lvLe.sm (lvLe.sm lvLe.nil)))))) ?_
        exact ih _ _ _ rv_ hR hk
      · refine g_iload C dX3_useless_61 rfl 63 rfl ?_
        refine g_iconst C dX3_useless_63 1 ic_1 64 rfl ?_
        refine g_iload C dX3_useless_64 rfl 66 rfl ?_
        refine g_ishl C dX3_useless_66 67 rfl ?_
        refine g_ior C dX3_useless_67 68 rfl ?_
        refine g_istore C dX3_useless_68 [_, _, _, _, _, _] (Nat.le_of_ble_eq_true rfl) rfl rfl 70 rfl ?_
        refine g_iinc C dX3_useless_70 rfl 1 ic_1 [_, _, _, _, _, _] (Nat.le_of_ble_eq_true rfl) rfl rfl 73 rfl ?_
        refine g_goto C dX3_useless_73 44 (by decide) ?_
        refine g_lv [some (.ref (b 0)), some (.int x1), some (.int x2), some (.int x3), some (.int (x4 ||| ((1 : Int32) <<< (x5 &&& 31)))), some (.int (x5 + 1))] (lvLe.sm (lvLe.sm (lvLe.sm (lvLe.sm (lvLe.sm (lvLe.sm lvLe.nil)))))) ?_
        exact ih _ _ _ rv_ hR hk
def f_X3_useless (S : (Nat → Nat → Int32) × (Nat → Nat → Int64)) (p0 : Int32) (N_ : Nat) : Option (Int32 × ((Nat → Nat → Int32) × (Nat → Nat → Int64))) :=
  if (f_X3_refusalInHand S (f_X3_isOneOf p0 3) true) = 0 then
    (f_X3_think S N_).bind fun v1 =>
    (f_X1_bestUse (v1.1 0 3) (v1.2 0) p0 N_).bind fun v2 =>
    (f_X3_useless_L44 p0 v2 N_ N_ 0 0 v1).bind fun v6 =>
    some (v6.1, v6.2.2)
  else
    some ((f_X3_refuse S (f_X3_refusalInHand S (f_X3_isOneOf p0 3) true)).1, (f_X3_refuse S (f_X3_refusalInHand S (f_X3_isOneOf p0 3) true)).2)
set_option maxRecDepth 100000 in
set_option maxHeartbeats 4000000 in
theorem k_X3_useless (l : Launch) (g : gE) (b : Nat → Nat) (y : Nat → Nat → Nat) (S : (Nat → Nat → Int32) × (Nat → Nat → Int64)) (p0 : Int32) (N_ : Nat) (R_ : Int32 × ((Nat → Nat → Int32) × (Nat → Nat → Int64))) (hR : f_X3_useless S p0 N_ = some R_) : FnI l g yX3_useless wA_X3_useless { frames := 5, cells := 0, slots := 0, locals := 124 } [.ref (b 0), .int p0] (wC g b y S) R_.1 (wC g b y R_.2) := by
  refine fEntry (As := [.ref (b 0), .int p0]) (maxL := 6) (ret := (some .int)) (by decide) rfl [some (.ref (b 0)), some (.int p0), none, none, none, none] (Nat.le_of_ble_eq_true rfl) (lvInB.to (lvInB.sm (lvInB.sm (lvInB.nn (lvInB.nn (lvInB.nn (lvInB.nn lvInB.nil))))))) ?_
  intro p e s m below meth c A C hr hlocks hname hA
  have C : Cx p s m _ c g A cX3_useless 6 wA_X3_useless RX3 := C
  rw [f_X3_useless] at hR
  refine g_aload_n C dX3_useless_0 rfl 1 rfl ?_
  refine g_iload_n C dX3_useless_1 rfl 2 rfl ?_
  refine g_iconst C dX3_useless_2 3 ic_3 3 rfl ?_
  refine g_callIR C (rn_S C (k_X3_isOneOf l g p0 3) (va_cwS 2 C.1.2.2.2.2 (gdS wl_95 wl_93 wl_94 wl_2) rfl rfl rfl hd_X3_isOneOf.2 ⟨Nat.le_of_ble_eq_true rfl, Nat.le_of_ble_eq_true rfl⟩) [] rfl rfl rfl rfl (Nat.le_of_ble_eq_true rfl) ⟨Nat.zero_le _, Nat.zero_le _⟩ dX3_useless_3) 6 rfl ?_
  refine g_iconst C dX3_useless_6 1 ic_1 7 rfl ?_
  refine g_callIR C (rn_V C (k_X3_refusalInHand l g b y S (f_X3_isOneOf p0 3) true) (cwV 2 C.1.2.2.2.2 (gdV wl_353 wl_350 wl_351 wl_352 wl_2) rfl rfl rfl hd_X3_refusalInHand ⟨Nat.le_of_ble_eq_true rfl, Nat.le_of_ble_eq_true rfl⟩) 0 rfl rfl _ rg_C rg_n rfl rfl (Nat.le_of_ble_eq_true rfl) ⟨Nat.zero_le _, Nat.zero_le _⟩ dX3_useless_7) 10 rfl ?_
  refine g_istore_n C dX3_useless_10 [_, _, _, _, _, _] (Nat.le_of_ble_eq_true rfl) rfl rfl 11 rfl ?_
  refine g_iload_n C dX3_useless_11 rfl 12 rfl ?_
  refine g_if_eq C dX3_useless_12 hR 21 15 (by decide) rfl (fun c_12 hR => ?_) (fun c_12 hR => ?_)
  · refine g_aload_n C dX3_useless_21 rfl 22 rfl ?_
    obtain ⟨v1, hv1, hR⟩ := opt_b hR
    refine g_callV C (rn_V C (k_X3_think l g b y S N_ v1 hv1) (cwV 0 C.1.2.2.2.2 (gdV wl_403 wl_400 wl_401 wl_402 wl_2) rfl rfl rfl hd_X3_think ⟨Nat.le_of_ble_eq_true rfl, Nat.le_of_ble_eq_true rfl⟩) 0 rfl rfl _ rg_C rg_n rfl rfl (Nat.le_of_ble_eq_true rfl) ⟨Nat.zero_le _, Nat.zero_le _⟩ dX3_useless_22) (wC g b y v1) (rg_put (wC_len.trans wC_len.symm)) (rg_len (wC_len.trans wC_len.symm)) 25 rfl ?_
    refine g_aload_n C dX3_useless_25 rfl 26 rfl ?_
    refine g_get (v := .ref (b 1)) C (hiC hiA_3) 0 rfl rfl 0 (by decide) (List.mem_cons_of_mem _ wl_15) rfl rfl dX3_useless_26 29 rfl ?_
    refine g_iload_n C dX3_useless_29 rfl 30 rfl ?_
    refine g_aload_n C dX3_useless_30 rfl 31 rfl ?_
    refine g_get (v := .ref (b 24)) C (hiC hiA_3) 0 rfl rfl 11 (by decide) (List.mem_cons_of_mem _ wl_33) rfl rfl dX3_useless_31 34 rfl ?_
    obtain ⟨v2, hv2, hR⟩ := opt_b hR
    refine g_callIR C (rn_VN C (k_X1_bestUse l g (b 1) (b 2) (b 3) (b 4) (b 5) (b 6) (b 24) (b 27) (v1.1 0 0) (v1.1 0 1) (v1.1 0 2) (v1.1 0 3) (v1.1 0 4) (v1.2 0) p0 N_ v2 hv2) ⟨va_cnB 2 C.1.2.2.2.2 (gdA wl_549) rfl rfl rfl (nst C (List.mem_of_getElem? (i := 20) rfl)) (C.1.2.2.2.2 _ (List.mem_cons_of_mem _ wl_14)) hd_X1_bestUse.2 ⟨Nat.le_of_ble_eq_true rfl, Nat.le_of_ble_eq_true rfl⟩, C.1.2.2.2.2 _ (List.mem_cons_of_mem _ wl_547), C.1.2.2.2.2 _ (List.mem_cons_of_mem _ wl_548)⟩ 1 rfl rfl [1, 39, 42] rfl rfl rfl rfl (Nat.le_of_ble_eq_true rfl) ⟨Nat.zero_le _, Nat.zero_le _⟩ dX3_useless_34) 37 rfl ?_
    refine g_istore_n C dX3_useless_37 [_, _, _, _, _, _] (Nat.le_of_ble_eq_true rfl) rfl rfl 38 rfl ?_
    refine g_iconst C dX3_useless_38 0 ic_0 39 rfl ?_
    refine g_istore C dX3_useless_39 [_, _, _, _, _, _] (Nat.le_of_ble_eq_true rfl) rfl rfl 41 rfl ?_
    refine g_iconst C dX3_useless_41 0 ic_0 42 rfl ?_
    refine g_istore C dX3_useless_42 [_, _, _, _, _, _] (Nat.le_of_ble_eq_true rfl) rfl rfl 44 rfl ?_
    refine g_lv [some (.ref (b 0)), some (.int p0), some (.int (f_X3_refusalInHand S (f_X3_isOneOf p0 3) true)), some (.int v2), some (.int 0), some (.int 0)] (lvLe.sm (lvLe.sm (lvLe.sm (lvLe.sm (lvLe.sm (lvLe.sm lvLe.nil)))))) ?_
    obtain ⟨v6, hv6, hR⟩ := opt_b hR
    refine k_X3_useless_L44 l g C N_ p0 (f_X3_refusalInHand S (f_X3_isOneOf p0 3) true) v2 y N_ 0 0 v1 _ hv6 ?_
    refine g_iload C dX3_useless_76 rfl 78 rfl ?_
    obtain rfl := Option.some.inj hR
    exact g_iret C hr hlocks hA (by first | (dsimp only; done) | rfl) (by first | (dsimp only; done) | rfl) dX3_useless_78
  · refine g_aload_n C dX3_useless_15 rfl 16 rfl ?_
    refine g_iload_n C dX3_useless_16 rfl 17 rfl ?_
    refine g_callI C (rn_V C (k_X3_refuse l g b y S (f_X3_refusalInHand S (f_X3_isOneOf p0 3) true)) (cwV 1 C.1.2.2.2.2 (gdV wl_99 wl_96 wl_97 wl_98 wl_2) rfl rfl rfl hd_X3_refuse ⟨Nat.le_of_ble_eq_true rfl, Nat.le_of_ble_eq_true rfl⟩) 0 rfl rfl _ rg_C rg_n rfl rfl (Nat.le_of_ble_eq_true rfl) ⟨Nat.zero_le _, Nat.zero_le _⟩ dX3_useless_17) (wC g b y ((f_X3_refuse S (f_X3_refusalInHand S (f_X3_isOneOf p0 3) true)).2)) (rg_put (wC_len.trans wC_len.symm)) (rg_len (wC_len.trans wC_len.symm)) 20 rfl ?_
    obtain rfl := Option.some.inj hR
    exact g_iret C hr hlocks hA (by first | (dsimp only; done) | rfl) (by first | (dsimp only; done) | rfl) dX3_useless_20
theorem hd_X3_person : yX3_person.cls = RX3 ∧ yX3_person.cls ≠ "java/lang/invoke/MethodHandle" ∧ yX3_person.cls ≠ "java/lang/invoke/VarHandle" ∧ (parseMethodDescriptor yX3_person.desc).map (fun d => d.parameters.length) = some 1 := by decide +kernel
def f_X3_person (S : (Nat → Nat → Int32) × (Nat → Nat → Int64)) (p0 : Int32) : Int32 × ((Nat → Nat → Int32) × (Nat → Nat → Int64)) :=
  if (b2i (f_X3_isOneOf p0 5)) = 0 then
    ((f_X3_refuse S (-2)).1, (f_X3_refuse S (-2)).2)
  else
    if (b2i ((f_X1_addPerson (S.1 0 4) (S.1 4) p0).1)) = 0 then
      ((f_X3_refuse ((kS (kS S.1 0 (upd (S.1 0) 4 ((f_X1_addPerson (S.1 0 4) (S.1 4) p0).2.1))) 4 ((f_X1_addPerson (S.1 0 4) (S.1 4) p0).2.2)), S.2) (-6)).1, (f_X3_refuse ((kS (kS S.1 0 (upd (S.1 0) 4 ((f_X1_addPerson (S.1 0 4) (S.1 4) p0).2.1))) 4 ((f_X1_addPerson (S.1 0 4) (S.1 4) p0).2.2)), S.2) (-6)).2)
    else
      ((f_X1_addPerson (S.1 0 4) (S.1 4) p0).2.1, ((kS (kS S.1 0 (upd (S.1 0) 4 ((f_X1_addPerson (S.1 0 4) (S.1 4) p0).2.1))) 4 ((f_X1_addPerson (S.1 0 4) (S.1 4) p0).2.2)), S.2))
set_option maxRecDepth 100000 in
set_option maxHeartbeats 4000000 in
theorem k_X3_person (l : Launch) (g : gE) (b : Nat → Nat) (y : Nat → Nat → Nat) (S : (Nat → Nat → Int32) × (Nat → Nat → Int64)) (p0 : Int32) : FnI l g yX3_person wA_X3_person { frames := 2, cells := 0, slots := 0, locals := 42 } [.ref (b 0), .int p0] (wC g b y S) ((f_X3_person S p0).1) (wC g b y ((f_X3_person S p0).2)) := by
  generalize hR : f_X3_person S p0 = R_
  refine fEntry (As := [.ref (b 0), .int p0]) (maxL := 2) (ret := (some .int)) (by decide) rfl [some (.ref (b 0)), some (.int p0)] (Nat.le_of_ble_eq_true rfl) (lvInB.to (lvInB.sm (lvInB.sm lvInB.nil))) ?_
  intro p e s m below meth c A C hr hlocks hname hA
  have C : Cx p s m _ c g A cX3_person 2 wA_X3_person RX3 := C
  rw [f_X3_person] at hR
  refine g_iload_n C dX3_person_0 rfl 1 rfl ?_
  refine g_iconst C dX3_person_1 5 ic_5 2 rfl ?_
  refine g_callIR C (rn_S C (k_X3_isOneOf l g p0 5) (va_cwS 2 C.1.2.2.2.2 (gdS wl_95 wl_93 wl_94 wl_2) rfl rfl rfl hd_X3_isOneOf.2 ⟨Nat.le_of_ble_eq_true rfl, Nat.le_of_ble_eq_true rfl⟩) [] rfl rfl rfl rfl (Nat.le_of_ble_eq_true rfl) ⟨Nat.zero_le _, Nat.zero_le _⟩ dX3_person_2) 5 rfl ?_
  refine g_if_ne C dX3_person_5 hR 15 8 (by decide) rfl (fun c_5 hR => ?_) (fun c_5 hR => ?_)
  · refine g_aload_n C dX3_person_15 rfl 16 rfl ?_
    refine g_get (v := .ref (b 1)) C (hiC hiA_3) 0 rfl rfl 0 (by decide) (List.mem_cons_of_mem _ wl_15) rfl rfl dX3_person_16 19 rfl ?_
    refine g_iload_n C dX3_person_19 rfl 20 rfl ?_
    refine g_callI C (rn_VN C (k_X1_addPerson l g (b 1) (b 2) (b 3) (b 4) (b 5) (b 6) (S.1 0 0) (S.1 0 1) (S.1 0 2) (S.1 0 3) (S.1 0 4) (S.1 4) p0) ⟨va_cnB 1 C.1.2.2.2.2 (gdA wl_715) rfl rfl rfl (nst C (List.mem_of_getElem? (i := 25) rfl)) (C.1.2.2.2.2 _ (List.mem_cons_of_mem _ wl_14)) hd_X1_addPerson.2 ⟨Nat.le_of_ble_eq_true rfl, Nat.le_of_ble_eq_true rfl⟩, C.1.2.2.2.2 _ (List.mem_cons_of_mem _ wl_713), C.1.2.2.2.2 _ (List.mem_cons_of_mem _ wl_714)⟩ 1 rfl rfl [1, 6] rfl rfl rfl rfl (Nat.le_of_ble_eq_true rfl) ⟨Nat.zero_le _, Nat.zero_le _⟩ dX3_person_20) (wC g b y ((kS (kS S.1 0 (upd (S.1 0) 4 ((f_X1_addPerson (S.1 0 4) (S.1 4) p0).2.1))) 4 ((f_X1_addPerson (S.1 0 4) (S.1 4) p0).2.2)), S.2)) rfl rfl 23 rfl ?_
    refine g_if_eq C dX3_person_23 hR 36 26 (by decide) rfl (fun c_23 hR => ?_) (fun c_23 hR => ?_)
    · refine g_aload_n C dX3_person_36 rfl 37 rfl ?_
      refine g_bipush C dX3_person_37 (-6) bp_m6 39 rfl ?_
      refine g_callI C (rn_V C (k_X3_refuse l g b y ((kS (kS S.1 0 (upd (S.1 0) 4 ((f_X1_addPerson (S.1 0 4) (S.1 4) p0).2.1))) 4 ((f_X1_addPerson (S.1 0 4) (S.1 4) p0).2.2)), S.2) (-6)) (cwV 1 C.1.2.2.2.2 (gdV wl_99 wl_96 wl_97 wl_98 wl_2) rfl rfl rfl hd_X3_refuse ⟨Nat.le_of_ble_eq_true rfl, Nat.le_of_ble_eq_true rfl⟩) 0 rfl rfl _ rg_C rg_n rfl rfl (Nat.le_of_ble_eq_true rfl) ⟨Nat.zero_le _, Nat.zero_le _⟩ dX3_person_39) (wC g b y ((f_X3_refuse ((kS (kS S.1 0 (upd (S.1 0) 4 ((f_X1_addPerson (S.1 0 4) (S.1 4) p0).2.1))) 4 ((f_X1_addPerson (S.1 0 4) (S.1 4) p0).2.2)), S.2) (-6)).2)) (rg_put (wC_len.trans wC_len.symm)) (rg_len (wC_len.trans wC_len.symm)) 42 rfl ?_
      subst hR
      exact g_iret C hr hlocks hA (by first | (dsimp only; done) | rfl) (by first | (dsimp only; done) | rfl) dX3_person_42
    · refine g_aload_n C dX3_person_26 rfl 27 rfl ?_
      refine g_get (v := .ref (b 1)) C (hiC hiA_3) 0 rfl rfl 0 (by decide) (List.mem_cons_of_mem _ wl_15) rfl rfl dX3_person_27 30 rfl ?_
      refine g_getN (v := .int ((f_X1_addPerson (S.1 0 4) (S.1 4) p0).2.1)) C (hiC hiA_1) 1 rfl rfl 9 (by decide) (List.mem_of_getElem? (i := 9) rfl) rfl rfl dX3_person_30 33 rfl ?_
      refine g_goto C dX3_person_33 42 (by decide) ?_
      subst hR
      exact g_iret C hr hlocks hA (by first | (dsimp only; done) | rfl) (by first | (dsimp only; done) | rfl) dX3_person_42
  · refine g_aload_n C dX3_person_8 rfl 9 rfl ?_
    refine g_bipush C dX3_person_9 (-2) bp_m2 11 rfl ?_
    refine g_callI C (rn_V C (k_X3_refuse l g b y S (-2)) (cwV 1 C.1.2.2.2.2 (gdV wl_99 wl_96 wl_97 wl_98 wl_2) rfl rfl rfl hd_X3_refuse ⟨Nat.le_of_ble_eq_true rfl, Nat.le_of_ble_eq_true rfl⟩) 0 rfl rfl _ rg_C rg_n rfl rfl (Nat.le_of_ble_eq_true rfl) ⟨Nat.zero_le _, Nat.zero_le _⟩ dX3_person_11) (wC g b y ((f_X3_refuse S (-2)).2)) (rg_put (wC_len.trans wC_len.symm)) (rg_len (wC_len.trans wC_len.symm)) 14 rfl ?_
    subst hR
    exact g_iret C hr hlocks hA (by first | (dsimp only; done) | rfl) (by first | (dsimp only; done) | rfl) dX3_person_14
theorem hd_X3_nobody : yX3_nobody.cls = RX3 ∧ yX3_nobody.cls ≠ "java/lang/invoke/MethodHandle" ∧ yX3_nobody.cls ≠ "java/lang/invoke/VarHandle" ∧ (parseMethodDescriptor yX3_nobody.desc).map (fun d => d.parameters.length) = some 0 := by decide +kernel
def f_X3_nobody (S : (Nat → Nat → Int32) × (Nat → Nat → Int64)) : Int32 × ((Nat → Nat → Int32) × (Nat → Nat → Int64)) :=
  ((S.1 0 4), ((kS S.1 0 (upd (S.1 0) 4 0)), S.2))
set_option maxRecDepth 100000 in
set_option maxHeartbeats 4000000 in
theorem k_X3_nobody (l : Launch) (g : gE) (b : Nat → Nat) (y : Nat → Nat → Nat) (S : (Nat → Nat → Int32) × (Nat → Nat → Int64)) : FnI l g yX3_nobody wA_X3_nobody { frames := 0, cells := 0, slots := 0, locals := 0 } [.ref (b 0)] (wC g b y S) ((f_X3_nobody S).1) (wC g b y ((f_X3_nobody S).2)) := by
  generalize hR : f_X3_nobody S = R_
  refine fEntry (As := [.ref (b 0)]) (maxL := 2) (ret := (some .int)) (by decide) rfl [some (.ref (b 0)), none] (Nat.le_of_ble_eq_true rfl) (lvInB.to (lvInB.sm (lvInB.nn lvInB.nil))) ?_
  intro p e s m below meth c A C hr hlocks hname hA
  have C : Cx p s m _ c g A cX3_nobody 2 wA_X3_nobody RX3 := C
  rw [f_X3_nobody] at hR
  refine g_aload_n C dX3_nobody_0 rfl 1 rfl ?_
  refine g_get (v := .ref (b 1)) C (hiC hiA_3) 0 rfl rfl 0 (by decide) (List.mem_cons_of_mem _ wl_15) rfl rfl dX3_nobody_1 4 rfl ?_
  refine g_getN (v := .int (S.1 0 4)) C (hiC hiA_1) 1 rfl rfl 9 (by decide) (List.mem_of_getElem? (i := 9) rfl) rfl rfl dX3_nobody_4 7 rfl ?_
  refine g_istore_n C dX3_nobody_7 [_, _] (Nat.le_of_ble_eq_true rfl) rfl rfl 8 rfl ?_
  refine g_aload_n C dX3_nobody_8 rfl 9 rfl ?_
  refine g_get (v := .ref (b 1)) C (hiC hiA_3) 0 rfl rfl 0 (by decide) (List.mem_cons_of_mem _ wl_15) rfl rfl dX3_nobody_9 12 rfl ?_
  refine g_iconst C dX3_nobody_12 0 ic_0 13 rfl ?_
  refine g_putN C (hiC hiA_1) tyX1 tyX1_ok nmX1 1 rfl rfl 9 (by decide) (List.mem_of_getElem? (i := 9) rfl) rfl rfl rfl rfl (Nat.le_of_ble_eq_true rfl) dX3_nobody_13 (wC g b y ((kS S.1 0 (upd (S.1 0) 4 0)), S.2)) rfl 16 rfl ?_
  refine g_iload_n C dX3_nobody_16 rfl 17 rfl ?_
  subst hR
  exact g_iret C hr hlocks hA (by first | (dsimp only; done) | rfl) (by first | (dsimp only; done) | rfl) dX3_nobody_17
theorem hd_X3_said : yX3_said.cls = RX3 ∧ yX3_said.cls ≠ "java/lang/invoke/MethodHandle" ∧ yX3_said.cls ≠ "java/lang/invoke/VarHandle" ∧ (parseMethodDescriptor yX3_said.desc).map (fun d => d.parameters.length) = some 3 := by decide +kernel
def f_X3_said_L68 (x1 : Int32) (N_ : Nat) : Nat → Int64 → Int32 → ((Nat → Nat → Int32) × (Nat → Nat → Int64)) → Option (Int64 × Int32 × ((Nat → Nat → Int32) × (Nat → Nat → Int64)))
  | 0, _, _, _ => none
  | n_ + 1, x5, x7, S =>
    if (S.1 0 4) ≤ x7 then
      some (x5, x7, S)
    else
      (f_X3_hear S (f_X3_at (S.1 4) 4 x7) ((x1 >>> (x7 &&& 31)) &&& 1) N_).bind fun v5 =>
      f_X3_said_L68 x1 N_ n_ (x5 * 10) (x7 + 1) v5
set_option maxRecDepth 100000 in
set_option maxHeartbeats 4000000 in
theorem k_X3_said_L68 (l : Launch) (g : gE) {p : Program} {e : Env} {s : State} {m : MethodId} {args : Array Value} {below : List Frame} {meth : Method} {c : Code} {Q : State → Prop} {A : Nat → Prop} {b : Nat → Nat}  (C : Cx p s m args c g A cX3_said 8 wA_X3_said RX3) (N_ : Nat) (x1 : Int32) (x2 : Int32) (x3 : Int32) (x4 : Int32) (y : Nat → Nat → Nat) : ∀ (n_ : Nat) (x5 : Int64) (x7 : Int32) (S : (Nat → Nat → Int32) × (Nat → Nat → Int64)) (rv_ : Int64 × Int32 × ((Nat → Nat → Int32) × (Nat → Nat → Int64))), f_X3_said_L68 x1 N_ n_ x5 x7 S = some rv_ → (Gm p l e (headSpec wA_X3_said ({ frames := 5, cells := 0, slots := 0, locals := 107 } : Room)).room s m args below meth c Q g A 8 0 0 (wC g b y rv_.2.2) [some (.ref (b 0)), some (.int x1), some (.int x2), some (.int x3), some (.int x4), some (.long rv_.1), none, some (.int rv_.2.1)] [] 116) → Gm p l e (headSpec wA_X3_said ({ frames := 5, cells := 0, slots := 0, locals := 107 } : Room)).room s m args below meth c Q g A 8 0 0 (wC g b y S) [some (.ref (b 0)), some (.int x1), some (.int x2), some (.int x3), some (.int x4), some (.long x5), none, some (.int x7)] [] 68 := by
  intro n_
  induction n_ with
  | zero =>
    intro x5 x7 S rv_ hR
    simp [f_X3_said_L68] at hR
  | succ n_ ih =>
    intro x5 x7 S rv_ hR hk
    rw [f_X3_said_L68] at hR
    refine g_iload C dX3_said_68 rfl 70 rfl ?_
    refine g_aload_n C dX3_said_70 rfl 71 rfl ?_
    refine g_get (v := .ref (b 1)) C (hiC hiA_3) 0 rfl rfl 0 (by decide) (List.mem_cons_of_mem _ wl_15) rfl rfl dX3_said_71 74 rfl ?_
    refine g_getN (v := .int (S.1 0 4)) C (hiC hiA_1) 1 rfl rfl 9 (by decide) (List.mem_of_getElem? (i := 9) rfl) rfl rfl dX3_said_74 77 rfl ?_
    refine g_icmp_ge C dX3_said_77 hR 116 80 (by decide) rfl (fun c_77 hR => ?_) (fun c_77 hR => ?_)
    · obtain rfl := Option.some.inj hR
      refine g_lv [some (.ref (b 0)), some (.int x1), some (.int x2), some (.int x3), some (.int x4), some (.long x5), none, some (.int x7)] (lvLe.sm (lvLe.sm (lvLe.sm (lvLe.sm (lvLe.sm (lvLe.sm (lvLe.nn (lvLe.sm lvLe.nil)))))))) ?_
      exact hk
    · refine g_aload_n C dX3_said_80 rfl 81 rfl ?_
      refine g_aload_n C dX3_said_81 rfl 82 rfl ?_
      refine g_get (v := .ref (b 1)) C (hiC hiA_3) 0 rfl rfl 0 (by decide) (List.mem_cons_of_mem _ wl_15) rfl rfl dX3_said_82 85 rfl ?_
      refine g_getN (v := .ref (b 6)) C (hiC hiA_1) 1 rfl rfl 8 (by decide) (List.mem_of_getElem? (i := 10) rfl) rfl rfl dX3_said_85 88 rfl ?_
      refine g_iload C dX3_said_88 rfl 90 rfl ?_
      refine g_callIR C (rn_S C (k_X3_at l g (b 6) (S.1 4) 4 x7 (by decide)) (va_cwS 2 C.1.2.2.2.2 (gdS wl_130 wl_128 wl_129 wl_2) rfl rfl rfl hd_X3_at.2 ⟨Nat.le_of_ble_eq_true rfl, Nat.le_of_ble_eq_true rfl⟩) [6] rfl rfl rfl rfl (Nat.le_of_ble_eq_true rfl) ⟨Nat.zero_le _, Nat.zero_le _⟩ dX3_said_90) 93 rfl ?_
      refine g_iload_n C dX3_said_93 rfl 94 rfl ?_
      refine g_iload C dX3_said_94 rfl 96 rfl ?_
      refine g_ishr C dX3_said_96 97 rfl ?_
      refine g_iconst C dX3_said_97 1 ic_1 98 rfl ?_
      refine g_iand C dX3_said_98 99 rfl ?_
      obtain ⟨v5, hv5, hR⟩ := opt_b hR
      refine g_callV C (rn_V C (k_X3_hear l g b y S (f_X3_at (S.1 4) 4 x7) ((x1 >>> (x7 &&& 31)) &&& 1) N_ v5 hv5) (cwV 2 C.1.2.2.2.2 (gdV wl_735 wl_732 wl_733 wl_734 wl_2) rfl rfl rfl hd_X3_hear ⟨Nat.le_of_ble_eq_true rfl, Nat.le_of_ble_eq_true rfl⟩) 0 rfl rfl _ rg_C rg_n rfl rfl (Nat.le_of_ble_eq_true rfl) ⟨Nat.zero_le _, Nat.zero_le _⟩ dX3_said_99) (wC g b y v5) (rg_put (wC_len.trans wC_len.symm)) (rg_len (wC_len.trans wC_len.symm)) 102 rfl ?_
      refine g_lload C dX3_said_102 rfl 104 rfl ?_
      refine g_ldc2 C dX3_said_104 (C.1.2.2.2.2 _ (List.mem_cons_of_mem _ wl_586)) 107 rfl ?_
      refine g_lmul C dX3_said_107 108 rfl ?_
      refine g_lstore C dX3_said_108 [_, _, _, _, _, _, _, _] (Nat.le_of_ble_eq_true rfl) rfl rfl 110 rfl ?_
      refine g_iinc C dX3_said_110 rfl 1 ic_1 [_, _, _, _, _, _, _, _] (Nat.le_of_ble_eq_true rfl) rfl rfl 113 rfl ?_
      refine g_goto C dX3_said_113 68 (by decide) ?_
      refine g_lv [some (.ref (b 0)), some (.int x1), some (.int x2), some (.int x3), some (.int x4), some (.long (x5 * 10)), none, some (.int (x7 + 1))] (lvLe.sm (lvLe.sm (lvLe.sm (lvLe.sm (lvLe.sm (lvLe.sm (lvLe.nn (lvLe.sm lvLe.nil)))))))) ?_
      exact ih _ _ _ rv_ hR hk
def f_X3_said (S : (Nat → Nat → Int32) × (Nat → Nat → Int64)) (p0 : Int32) (p1 : Int32) (p2 : Int32) (N_ : Nat) : Option (Int64 × ((Nat → Nat → Int32) × (Nat → Nat → Int64))) :=
  if (b2i (f_X3_isOneOf p1 2)) = 0 then
    if (f_X3_refusalInHand S (f_X3_isOneOf p0 ((1 : Int32) <<< ((S.1 0 4) &&& 31))) false) = 0 then
      (f_X3_think S N_).bind fun v1 =>
      (f_X2_sumOfAll (v1.2 0) N_).bind fun v2 =>
      (f_X3_said_L68 p0 N_ N_ v2 0 v1).bind fun v6 =>
      if p1 = 0 then
        (f_X2_sumOfAll (v6.2.2.2 0) N_).bind fun v10 =>
        (f_X3_inLeastTerms v10 v6.1 p2 N_).bind fun v11 =>
        some (v11, v6.2.2)
      else
        (f_X2_sumOf (v6.2.2.2 0) 0 1 N_).bind fun v7 =>
        (f_X2_sumOfAll (v6.2.2.2 0) N_).bind fun v8 =>
        (f_X3_inLeastTerms v7 v8 p2 N_).bind fun v9 =>
        some (v9, v6.2.2)
    else
      some ((f_X3_refuseLong S (f_X3_refusalInHand S (f_X3_isOneOf p0 ((1 : Int32) <<< ((S.1 0 4) &&& 31))) false)).1, (f_X3_refuseLong S (f_X3_refusalInHand S (f_X3_isOneOf p0 ((1 : Int32) <<< ((S.1 0 4) &&& 31))) false)).2)
  else
    if (b2i (f_X3_isOneOf p2 2)) = 0 then
      if (f_X3_refusalInHand S (f_X3_isOneOf p0 ((1 : Int32) <<< ((S.1 0 4) &&& 31))) false) = 0 then
        (f_X3_think S N_).bind fun v12 =>
        (f_X2_sumOfAll (v12.2 0) N_).bind fun v13 =>
        (f_X3_said_L68 p0 N_ N_ v13 0 v12).bind fun v14 =>
        if p1 = 0 then
          (f_X2_sumOfAll (v14.2.2.2 0) N_).bind fun v18 =>
          (f_X3_inLeastTerms v18 v14.1 p2 N_).bind fun v19 =>
          some (v19, v14.2.2)
        else
          (f_X2_sumOf (v14.2.2.2 0) 0 1 N_).bind fun v15 =>
          (f_X2_sumOfAll (v14.2.2.2 0) N_).bind fun v16 =>
          (f_X3_inLeastTerms v15 v16 p2 N_).bind fun v17 =>
          some (v17, v14.2.2)
      else
        some ((f_X3_refuseLong S (f_X3_refusalInHand S (f_X3_isOneOf p0 ((1 : Int32) <<< ((S.1 0 4) &&& 31))) false)).1, (f_X3_refuseLong S (f_X3_refusalInHand S (f_X3_isOneOf p0 ((1 : Int32) <<< ((S.1 0 4) &&& 31))) false)).2)
    else
      if (f_X3_refusalInHand S (f_X3_isOneOf p0 ((1 : Int32) <<< ((S.1 0 4) &&& 31))) true) = 0 then
        (f_X3_think S N_).bind fun v20 =>
        (f_X2_sumOfAll (v20.2 0) N_).bind fun v21 =>
        (f_X3_said_L68 p0 N_ N_ v21 0 v20).bind fun v22 =>
        if p1 = 0 then
          (f_X2_sumOfAll (v22.2.2.2 0) N_).bind fun v26 =>
          (f_X3_inLeastTerms v26 v22.1 p2 N_).bind fun v27 =>
          some (v27, v22.2.2)
        else
          (f_X2_sumOf (v22.2.2.2 0) 0 1 N_).bind fun v23 =>
          (f_X2_sumOfAll (v22.2.2.2 0) N_).bind fun v24 =>
          (f_X3_inLeastTerms v23 v24 p2 N_).bind fun v25 =>
          some (v25, v22.2.2)
      else
        some ((f_X3_refuseLong S (f_X3_refusalInHand S (f_X3_isOneOf p0 ((1 : Int32) <<< ((S.1 0 4) &&& 31))) true)).1, (f_X3_refuseLong S (f_X3_refusalInHand S (f_X3_isOneOf p0 ((1 : Int32) <<< ((S.1 0 4) &&& 31))) true)).2)
set_option maxRecDepth 100000 in
set_option maxHeartbeats 4000000 in
theorem k_X3_said (l : Launch) (g : gE) (b : Nat → Nat) (y : Nat → Nat → Nat) (S : (Nat → Nat → Int32) × (Nat → Nat → Int64)) (p0 : Int32) (p1 : Int32) (p2 : Int32) (N_ : Nat) (R_ : Int64 × ((Nat → Nat → Int32) × (Nat → Nat → Int64))) (hR : f_X3_said S p0 p1 p2 N_ = some R_) : FnL l g yX3_said wA_X3_said { frames := 5, cells := 0, slots := 0, locals := 107 } [.ref (b 0), .int p0, .int p1, .int p2] (wC g b y S) R_.1 (wC g b y R_.2) := by
  refine fEntry (As := [.ref (b 0), .int p0, .int p1, .int p2]) (maxL := 8) (ret := (some .long)) (by decide) rfl [some (.ref (b 0)), some (.int p0), some (.int p1), some (.int p2), none, none, none, none] (Nat.le_of_ble_eq_true rfl) (lvInB.to (lvInB.sm (lvInB.sm (lvInB.sm (lvInB.sm (lvInB.nn (lvInB.nn (lvInB.nn (lvInB.nn lvInB.nil))))))))) ?_
  intro p e s m below meth c A C hr hlocks hname hA
  have C : Cx p s m _ c g A cX3_said 8 wA_X3_said RX3 := C
  rw [f_X3_said] at hR
  refine g_aload_n C dX3_said_0 rfl 1 rfl ?_
  refine g_iload_n C dX3_said_1 rfl 2 rfl ?_
  refine g_iconst C dX3_said_2 1 ic_1 3 rfl ?_
  refine g_aload_n C dX3_said_3 rfl 4 rfl ?_
  refine g_get (v := .ref (b 1)) C (hiC hiA_3) 0 rfl rfl 0 (by decide) (List.mem_cons_of_mem _ wl_15) rfl rfl dX3_said_4 7 rfl ?_
  refine g_getN (v := .int (S.1 0 4)) C (hiC hiA_1) 1 rfl rfl 9 (by decide) (List.mem_of_getElem? (i := 9) rfl) rfl rfl dX3_said_7 10 rfl ?_
  refine g_ishl C dX3_said_10 11 rfl ?_
  refine g_callIR C (rn_S C (k_X3_isOneOf l g p0 ((1 : Int32) <<< ((S.1 0 4) &&& 31))) (va_cwS 2 C.1.2.2.2.2 (gdS wl_95 wl_93 wl_94 wl_2) rfl rfl rfl hd_X3_isOneOf.2 ⟨Nat.le_of_ble_eq_true rfl, Nat.le_of_ble_eq_true rfl⟩) [] rfl rfl rfl rfl (Nat.le_of_ble_eq_true rfl) ⟨Nat.zero_le _, Nat.zero_le _⟩ dX3_said_11) 14 rfl ?_
  refine g_iload_n C dX3_said_14 rfl 15 rfl ?_
  refine g_iconst C dX3_said_15 2 ic_2 16 rfl ?_
  refine g_callIR C (rn_S C (k_X3_isOneOf l g p1 2) (va_cwS 2 C.1.2.2.2.2 (gdS wl_95 wl_93 wl_94 wl_2) rfl rfl rfl hd_X3_isOneOf.2 ⟨Nat.le_of_ble_eq_true rfl, Nat.le_of_ble_eq_true rfl⟩) [] rfl rfl rfl rfl (Nat.le_of_ble_eq_true rfl) ⟨Nat.zero_le _, Nat.zero_le _⟩ dX3_said_16) 19 rfl ?_
  refine g_if_eq C dX3_said_19 hR 34 22 (by decide) rfl (fun c_19 hR => ?_) (fun c_19 hR => ?_)
  · refine g_iconst C dX3_said_34 0 ic_0 35 rfl ?_
    refine g_callIR C (rn_V C (k_X3_refusalInHand l g b y S (f_X3_isOneOf p0 ((1 : Int32) <<< ((S.1 0 4) &&& 31))) false) (cwV 2 C.1.2.2.2.2 (gdV wl_353 wl_350 wl_351 wl_352 wl_2) rfl rfl rfl hd_X3_refusalInHand ⟨Nat.le_of_ble_eq_true rfl, Nat.le_of_ble_eq_true rfl⟩) 0 rfl rfl _ rg_C rg_n rfl rfl (Nat.le_of_ble_eq_true rfl) ⟨Nat.zero_le _, Nat.zero_le _⟩ dX3_said_35) 38 rfl ?_
    refine g_istore C dX3_said_38 [_, _, _, _, _, _, _, _] (Nat.le_of_ble_eq_true rfl) rfl rfl 40 rfl ?_
    refine g_iload C dX3_said_40 rfl 42 rfl ?_
    refine g_if_eq C dX3_said_42 hR 52 45 (by decide) rfl (fun c_42 hR => ?_) (fun c_42 hR => ?_)
    · refine g_aload_n C dX3_said_52 rfl 53 rfl ?_
      obtain ⟨v1, hv1, hR⟩ := opt_b hR
      refine g_callV C (rn_V C (k_X3_think l g b y S N_ v1 hv1) (cwV 0 C.1.2.2.2.2 (gdV wl_403 wl_400 wl_401 wl_402 wl_2) rfl rfl rfl hd_X3_think ⟨Nat.le_of_ble_eq_true rfl, Nat.le_of_ble_eq_true rfl⟩) 0 rfl rfl _ rg_C rg_n rfl rfl (Nat.le_of_ble_eq_true rfl) ⟨Nat.zero_le _, Nat.zero_le _⟩ dX3_said_53) (wC g b y v1) (rg_put (wC_len.trans wC_len.symm)) (rg_len (wC_len.trans wC_len.symm)) 56 rfl ?_
      refine g_aload_n C dX3_said_56 rfl 57 rfl ?_
      refine g_get (v := .ref (b 24)) C (hiC hiA_3) 0 rfl rfl 11 (by decide) (List.mem_cons_of_mem _ wl_33) rfl rfl dX3_said_57 60 rfl ?_
      obtain ⟨v2, hv2, hR⟩ := opt_b hR
      refine g_callLR C (rn_VN C (k_X2_sumOfAll l g (b 24) (b 27) (v1.2 0) N_ v2 hv2) ⟨va_cnB 0 C.1.2.2.2.2 (gdA wl_478) rfl rfl rfl (nst C (List.mem_of_getElem? (i := 18) rfl)) (C.1.2.2.2.2 _ (List.mem_cons_of_mem _ wl_32)) hd_X2_sumOfAll.2 ⟨Nat.le_of_ble_eq_true rfl, Nat.le_of_ble_eq_true rfl⟩, C.1.2.2.2.2 _ (List.mem_cons_of_mem _ wl_476), C.1.2.2.2.2 _ (List.mem_cons_of_mem _ wl_477)⟩ 39 rfl rfl [39, 42] rfl rfl rfl rfl (Nat.le_of_ble_eq_true rfl) ⟨Nat.zero_le _, Nat.zero_le _⟩ dX3_said_60) 63 rfl ?_
      refine g_lstore C dX3_said_63 [_, _, _, _, _, _, _, _] (Nat.le_of_ble_eq_true rfl) rfl rfl 65 rfl ?_
      refine g_iconst C dX3_said_65 0 ic_0 66 rfl ?_
      refine g_istore C dX3_said_66 [_, _, _, _, _, _, _, _] (Nat.le_of_ble_eq_true rfl) rfl rfl 68 rfl ?_
      refine g_lv [some (.ref (b 0)), some (.int p0), some (.int p1), some (.int p2), some (.int (f_X3_refusalInHand S (f_X3_isOneOf p0 ((1 : Int32) <<< ((S.1 0 4) &&& 31))) false)), some (.long v2), none, some (.int 0)] (lvLe.sm (lvLe.sm (lvLe.sm (lvLe.sm (lvLe.sm (lvLe.sm (lvLe.nn (lvLe.sm lvLe.nil)))))))) ?_
      obtain ⟨v6, hv6, hR⟩ := opt_b hR
      refine k_X3_said_L68 l g C N_ p0 p1 p2 (f_X3_refusalInHand S (f_X3_isOneOf p0 ((1 : Int32) <<< ((S.1 0 4) &&& 31))) false) y N_ v2 0 v1 _ hv6 ?_
      refine g_iload_n C dX3_said_116 rfl 117 rfl ?_
      refine g_if_ne C dX3_said_117 hR 134 120 (by decide) rfl (fun c_117 hR => ?_) (fun c_117 hR => ?_)
      · refine g_aload_n C dX3_said_134 rfl 135 rfl ?_
        refine g_get (v := .ref (b 24)) C (hiC hiA_3) 0 rfl rfl 11 (by decide) (List.mem_cons_of_mem _ wl_33) rfl rfl dX3_said_135 138 rfl ?_
        refine g_iconst C dX3_said_138 0 ic_0 139 rfl ?_
        refine g_iconst C dX3_said_139 1 ic_1 140 rfl ?_
        obtain ⟨v7, hv7, hR⟩ := opt_b hR
        refine g_callLR C (rn_VN C (k_X2_sumOf l g (b 24) (b 27) (v6.2.2.2 0) 0 1 N_ v7 hv7) ⟨va_cnB 2 C.1.2.2.2.2 (gdA wl_427) rfl rfl rfl (nst C (List.mem_of_getElem? (i := 17) rfl)) (C.1.2.2.2.2 _ (List.mem_cons_of_mem _ wl_32)) hd_X2_sumOf.2 ⟨Nat.le_of_ble_eq_true rfl, Nat.le_of_ble_eq_true rfl⟩, C.1.2.2.2.2 _ (List.mem_cons_of_mem _ wl_425), C.1.2.2.2.2 _ (List.mem_cons_of_mem _ wl_426)⟩ 39 rfl rfl [39, 42] rfl rfl rfl rfl (Nat.le_of_ble_eq_true rfl) ⟨Nat.zero_le _, Nat.zero_le _⟩ dX3_said_140) 143 rfl ?_
        refine g_aload_n C dX3_said_143 rfl 144 rfl ?_
        refine g_get (v := .ref (b 24)) C (hiC hiA_3) 0 rfl rfl 11 (by decide) (List.mem_cons_of_mem _ wl_33) rfl rfl dX3_said_144 147 rfl ?_
        obtain ⟨v8, hv8, hR⟩ := opt_b hR
        refine g_callLR C (rn_VN C (k_X2_sumOfAll l g (b 24) (b 27) (v6.2.2.2 0) N_ v8 hv8) ⟨va_cnB 0 C.1.2.2.2.2 (gdA wl_478) rfl rfl rfl (nst C (List.mem_of_getElem? (i := 18) rfl)) (C.1.2.2.2.2 _ (List.mem_cons_of_mem _ wl_32)) hd_X2_sumOfAll.2 ⟨Nat.le_of_ble_eq_true rfl, Nat.le_of_ble_eq_true rfl⟩, C.1.2.2.2.2 _ (List.mem_cons_of_mem _ wl_476), C.1.2.2.2.2 _ (List.mem_cons_of_mem _ wl_477)⟩ 39 rfl rfl [39, 42] rfl rfl rfl rfl (Nat.le_of_ble_eq_true rfl) ⟨Nat.zero_le _, Nat.zero_le _⟩ dX3_said_147) 150 rfl ?_
        refine g_iload_n C dX3_said_150 rfl 151 rfl ?_
        obtain ⟨v9, hv9, hR⟩ := opt_b hR
        refine g_callLR C (rn_S C (k_X3_inLeastTerms l g v7 v8 p2 N_ v9 hv9) (va_cwS 3 C.1.2.2.2.2 (gdS wl_481 wl_479 wl_480 wl_2) rfl rfl rfl hd_X3_inLeastTerms.2 ⟨Nat.le_of_ble_eq_true rfl, Nat.le_of_ble_eq_true rfl⟩) [] rfl rfl rfl rfl (Nat.le_of_ble_eq_true rfl) ⟨Nat.zero_le _, Nat.zero_le _⟩ dX3_said_151) 154 rfl ?_
        obtain rfl := Option.some.inj hR
        exact g_lret C hr hlocks hA (by first | (dsimp only; done) | rfl) (by first | (dsimp only; done) | rfl) dX3_said_154
      · refine g_aload_n C dX3_said_120 rfl 121 rfl ?_
        refine g_get (v := .ref (b 24)) C (hiC hiA_3) 0 rfl rfl 11 (by decide) (List.mem_cons_of_mem _ wl_33) rfl rfl dX3_said_121 124 rfl ?_
        obtain ⟨v10, hv10, hR⟩ := opt_b hR
        refine g_callLR C (rn_VN C (k_X2_sumOfAll l g (b 24) (b 27) (v6.2.2.2 0) N_ v10 hv10) ⟨va_cnB 0 C.1.2.2.2.2 (gdA wl_478) rfl rfl rfl (nst C (List.mem_of_getElem? (i := 18) rfl)) (C.1.2.2.2.2 _ (List.mem_cons_of_mem _ wl_32)) hd_X2_sumOfAll.2 ⟨Nat.le_of_ble_eq_true rfl, Nat.le_of_ble_eq_true rfl⟩, C.1.2.2.2.2 _ (List.mem_cons_of_mem _ wl_476), C.1.2.2.2.2 _ (List.mem_cons_of_mem _ wl_477)⟩ 39 rfl rfl [39, 42] rfl rfl rfl rfl (Nat.le_of_ble_eq_true rfl) ⟨Nat.zero_le _, Nat.zero_le _⟩ dX3_said_124) 127 rfl ?_
        refine g_lload C dX3_said_127 rfl 129 rfl ?_
        refine g_iload_n C dX3_said_129 rfl 130 rfl ?_
        obtain ⟨v11, hv11, hR⟩ := opt_b hR
        refine g_callLR C (rn_S C (k_X3_inLeastTerms l g v10 v6.1 p2 N_ v11 hv11) (va_cwS 3 C.1.2.2.2.2 (gdS wl_481 wl_479 wl_480 wl_2) rfl rfl rfl hd_X3_inLeastTerms.2 ⟨Nat.le_of_ble_eq_true rfl, Nat.le_of_ble_eq_true rfl⟩) [] rfl rfl rfl rfl (Nat.le_of_ble_eq_true rfl) ⟨Nat.zero_le _, Nat.zero_le _⟩ dX3_said_130) 133 rfl ?_
        obtain rfl := Option.some.inj hR
        exact g_lret C hr hlocks hA (by first | (dsimp only; done) | rfl) (by first | (dsimp only; done) | rfl) dX3_said_133
    · refine g_aload_n C dX3_said_45 rfl 46 rfl ?_
      refine g_iload C dX3_said_46 rfl 48 rfl ?_
      refine g_callL C (rn_V C (k_X3_refuseLong l g b y S (f_X3_refusalInHand S (f_X3_isOneOf p0 ((1 : Int32) <<< ((S.1 0 4) &&& 31))) false)) (cwV 1 C.1.2.2.2.2 (gdV wl_453 wl_450 wl_451 wl_452 wl_2) rfl rfl rfl hd_X3_refuseLong ⟨Nat.le_of_ble_eq_true rfl, Nat.le_of_ble_eq_true rfl⟩) 0 rfl rfl _ rg_C rg_n rfl rfl (Nat.le_of_ble_eq_true rfl) ⟨Nat.zero_le _, Nat.zero_le _⟩ dX3_said_48) (wC g b y ((f_X3_refuseLong S (f_X3_refusalInHand S (f_X3_isOneOf p0 ((1 : Int32) <<< ((S.1 0 4) &&& 31))) false)).2)) (rg_put (wC_len.trans wC_len.symm)) (rg_len (wC_len.trans wC_len.symm)) 51 rfl ?_
      obtain rfl := Option.some.inj hR
      exact g_lret C hr hlocks hA (by first | (dsimp only; done) | rfl) (by first | (dsimp only; done) | rfl) dX3_said_51
  · refine g_iload_n C dX3_said_22 rfl 23 rfl ?_
    refine g_iconst C dX3_said_23 2 ic_2 24 rfl ?_
    refine g_callIR C (rn_S C (k_X3_isOneOf l g p2 2) (va_cwS 2 C.1.2.2.2.2 (gdS wl_95 wl_93 wl_94 wl_2) rfl rfl rfl hd_X3_isOneOf.2 ⟨Nat.le_of_ble_eq_true rfl, Nat.le_of_ble_eq_true rfl⟩) [] rfl rfl rfl rfl (Nat.le_of_ble_eq_true rfl) ⟨Nat.zero_le _, Nat.zero_le _⟩ dX3_said_24) 27 rfl ?_
    refine g_if_eq C dX3_said_27 hR 34 30 (by decide) rfl (fun c_27 hR => ?_) (fun c_27 hR => ?_)
    · refine g_iconst C dX3_said_34 0 ic_0 35 rfl ?_
      refine g_callIR C (rn_V C (k_X3_refusalInHand l g b y S (f_X3_isOneOf p0 ((1 : Int32) <<< ((S.1 0 4) &&& 31))) false) (cwV 2 C.1.2.2.2.2 (gdV wl_353 wl_350 wl_351 wl_352 wl_2) rfl rfl rfl hd_X3_refusalInHand ⟨Nat.le_of_ble_eq_true rfl, Nat.le_of_ble_eq_true rfl⟩) 0 rfl rfl _ rg_C rg_n rfl rfl (Nat.le_of_ble_eq_true rfl) ⟨Nat.zero_le _, Nat.zero_le _⟩ dX3_said_35) 38 rfl ?_
      refine g_istore C dX3_said_38 [_, _, _, _, _, _, _, _] (Nat.le_of_ble_eq_true rfl) rfl rfl 40 rfl ?_
      refine g_iload C dX3_said_40 rfl 42 rfl ?_
      refine g_if_eq C dX3_said_42 hR 52 45 (by decide) rfl (fun c_42 hR => ?_) (fun c_42 hR => ?_)
      · refine g_aload_n C dX3_said_52 rfl 53 rfl ?_
        obtain ⟨v12, hv12, hR⟩ := opt_b hR
        refine g_callV C (rn_V C (k_X3_think l g b y S N_ v12 hv12) (cwV 0 C.1.2.2.2.2 (gdV wl_403 wl_400 wl_401 wl_402 wl_2) rfl rfl rfl hd_X3_think ⟨Nat.le_of_ble_eq_true rfl, Nat.le_of_ble_eq_true rfl⟩) 0 rfl rfl _ rg_C rg_n rfl rfl (Nat.le_of_ble_eq_true rfl) ⟨Nat.zero_le _, Nat.zero_le _⟩ dX3_said_53) (wC g b y v12) (rg_put (wC_len.trans wC_len.symm)) (rg_len (wC_len.trans wC_len.symm)) 56 rfl ?_
        refine g_aload_n C dX3_said_56 rfl 57 rfl ?_
        refine g_get (v := .ref (b 24)) C (hiC hiA_3) 0 rfl rfl 11 (by decide) (List.mem_cons_of_mem _ wl_33) rfl rfl dX3_said_57 60 rfl ?_
        obtain ⟨v13, hv13, hR⟩ := opt_b hR
        refine g_callLR C (rn_VN C (k_X2_sumOfAll l g (b 24) (b 27) (v12.2 0) N_ v13 hv13) ⟨va_cnB 0 C.1.2.2.2.2 (gdA wl_478) rfl rfl rfl (nst C (List.mem_of_getElem? (i := 18) rfl)) (C.1.2.2.2.2 _ (List.mem_cons_of_mem _ wl_32)) hd_X2_sumOfAll.2 ⟨Nat.le_of_ble_eq_true rfl, Nat.le_of_ble_eq_true rfl⟩, C.1.2.2.2.2 _ (List.mem_cons_of_mem _ wl_476), C.1.2.2.2.2 _ (List.mem_cons_of_mem _ wl_477)⟩ 39 rfl rfl [39, 42] rfl rfl rfl rfl (Nat.le_of_ble_eq_true rfl) ⟨Nat.zero_le _, Nat.zero_le _⟩ dX3_said_60) 63 rfl ?_
        refine g_lstore C dX3_said_63 [_, _, _, _, _, _, _, _] (Nat.le_of_ble_eq_true rfl) rfl rfl 65 rfl ?_
        refine g_iconst C dX3_said_65 0 ic_0 66 rfl ?_
        refine g_istore C dX3_said_66 [_, _, _, _, _, _, _, _] (Nat.le_of_ble_eq_true rfl) rfl rfl 68 rfl ?_
        refine g_lv [some (.ref (b 0)), some (.int p0), some (.int p1), some (.int p2), some (.int (f_X3_refusalInHand S (f_X3_isOneOf p0 ((1 : Int32) <<< ((S.1 0 4) &&& 31))) false)), some (.long v13), none, some (.int 0)] (lvLe.sm (lvLe.sm (lvLe.sm (lvLe.sm (lvLe.sm (lvLe.sm (lvLe.nn (lvLe.sm lvLe.nil)))))))) ?_
        obtain ⟨v14, hv14, hR⟩ := opt_b hR
        refine k_X3_said_L68 l g C N_ p0 p1 p2 (f_X3_refusalInHand S (f_X3_isOneOf p0 ((1 : Int32) <<< ((S.1 0 4) &&& 31))) false) y N_ v13 0 v12 _ hv14 ?_
        refine g_iload_n C dX3_said_116 rfl 117 rfl ?_
        refine g_if_ne C dX3_said_117 hR 134 120 (by decide) rfl (fun c_117 hR => ?_) (fun c_117 hR => ?_)
        · refine g_aload_n C dX3_said_134 rfl 135 rfl ?_
          refine g_get (v := .ref (b 24)) C (hiC hiA_3) 0 rfl rfl 11 (by decide) (List.mem_cons_of_mem _ wl_33) rfl rfl dX3_said_135 138 rfl ?_
          refine g_iconst C dX3_said_138 0 ic_0 139 rfl ?_
          refine g_iconst C dX3_said_139 1 ic_1 140 rfl ?_
          obtain ⟨v15, hv15, hR⟩ := opt_b hR
          refine g_callLR C (rn_VN C (k_X2_sumOf l g (b 24) (b 27) (v14.2.2.2 0) 0 1 N_ v15 hv15) ⟨va_cnB 2 C.1.2.2.2.2 (gdA wl_427) rfl rfl rfl (nst C (List.mem_of_getElem? (i := 17) rfl)) (C.1.2.2.2.2 _ (List.mem_cons_of_mem _ wl_32)) hd_X2_sumOf.2 ⟨Nat.le_of_ble_eq_true rfl, Nat.le_of_ble_eq_true rfl⟩, C.1.2.2.2.2 _ (List.mem_cons_of_mem _ wl_425), C.1.2.2.2.2 _ (List.mem_cons_of_mem _ wl_426)⟩ 39 rfl rfl [39, 42] rfl rfl rfl rfl (Nat.le_of_ble_eq_true rfl) ⟨Nat.zero_le _, Nat.zero_le _⟩ dX3_said_140) 143 rfl ?_
          refine g_aload_n C dX3_said_143 rfl 144 rfl ?_
          refine g_get (v := .ref (b 24)) C (hiC hiA_3) 0 rfl rfl 11 (by decide) (List.mem_cons_of_mem _ wl_33) rfl rfl dX3_said_144 147 rfl ?_
          obtain ⟨v16, hv16, hR⟩ := opt_b hR
          refine g_callLR C (rn_VN C (k_X2_sumOfAll l g (b 24) (b 27) (v14.2.2.2 0) N_ v16 hv16) ⟨va_cnB 0 C.1.2.2.2.2 (gdA wl_478) rfl rfl rfl (nst C (List.mem_of_getElem? (i := 18) rfl)) (C.1.2.2.2.2 _ (List.mem_cons_of_mem _ wl_32)) hd_X2_sumOfAll.2 ⟨Nat.le_of_ble_eq_true rfl, Nat.le_of_ble_eq_true rfl⟩, C.1.2.2.2.2 _ (List.mem_cons_of_mem _ wl_476), C.1.2.2.2.2 _ (List.mem_cons_of_mem _ wl_477)⟩ 39 rfl rfl [39, 42] rfl rfl rfl rfl (Nat.le_of_ble_eq_true rfl) ⟨Nat.zero_le _, Nat.zero_le _⟩ dX3_said_147) 150 rfl ?_
          refine g_iload_n C dX3_said_150 rfl 151 rfl ?_
          obtain ⟨v17, hv17, hR⟩ := opt_b hR
          refine g_callLR C (rn_S C (k_X3_inLeastTerms l g v15 v16 p2 N_ v17 hv17) (va_cwS 3 C.1.2.2.2.2 (gdS wl_481 wl_479 wl_480 wl_2) rfl rfl rfl hd_X3_inLeastTerms.2 ⟨Nat.le_of_ble_eq_true rfl, Nat.le_of_ble_eq_true rfl⟩) [] rfl rfl rfl rfl (Nat.le_of_ble_eq_true rfl) ⟨Nat.zero_le _, Nat.zero_le _⟩ dX3_said_151) 154 rfl ?_
          obtain rfl := Option.some.inj hR
          exact g_lret C hr hlocks hA (by first | (dsimp only; done) | rfl) (by first | (dsimp only; done) | rfl) dX3_said_154
        · refine g_aload_n C dX3_said_120 rfl 121 rfl ?_
          refine g_get (v := .ref (b 24)) C (hiC hiA_3) 0 rfl rfl 11 (by decide) (List.mem_cons_of_mem _ wl_33) rfl rfl dX3_said_121 124 rfl ?_
          obtain ⟨v18, hv18, hR⟩ := opt_b hR
          refine g_callLR C (rn_VN C (k_X2_sumOfAll l g (b 24) (b 27) (v14.2.2.2 0) N_ v18 hv18) ⟨va_cnB 0 C.1.2.2.2.2 (gdA wl_478) rfl rfl rfl (nst C (List.mem_of_getElem? (i := 18) rfl)) (C.1.2.2.2.2 _ (List.mem_cons_of_mem _ wl_32)) hd_X2_sumOfAll.2 ⟨Nat.le_of_ble_eq_true rfl, Nat.le_of_ble_eq_true rfl⟩, C.1.2.2.2.2 _ (List.mem_cons_of_mem _ wl_476), C.1.2.2.2.2 _ (List.mem_cons_of_mem _ wl_477)⟩ 39 rfl rfl [39, 42] rfl rfl rfl rfl (Nat.le_of_ble_eq_true rfl) ⟨Nat.zero_le _, Nat.zero_le _⟩ dX3_said_124) 127 rfl ?_
          refine g_lload C dX3_said_127 rfl 129 rfl ?_
          refine g_iload_n C dX3_said_129 rfl 130 rfl ?_
          obtain ⟨v19, hv19, hR⟩ := opt_b hR
          refine g_callLR C (rn_S C (k_X3_inLeastTerms l g v18 v14.1 p2 N_ v19 hv19) (va_cwS 3 C.1.2.2.2.2 (gdS wl_481 wl_479 wl_480 wl_2) rfl rfl rfl hd_X3_inLeastTerms.2 ⟨Nat.le_of_ble_eq_true rfl, Nat.le_of_ble_eq_true rfl⟩) [] rfl rfl rfl rfl (Nat.le_of_ble_eq_true rfl) ⟨Nat.zero_le _, Nat.zero_le _⟩ dX3_said_130) 133 rfl ?_
          obtain rfl := Option.some.inj hR
          exact g_lret C hr hlocks hA (by first | (dsimp only; done) | rfl) (by first | (dsimp only; done) | rfl) dX3_said_133
      · refine g_aload_n C dX3_said_45 rfl 46 rfl ?_
        refine g_iload C dX3_said_46 rfl 48 rfl ?_
        refine g_callL C (rn_V C (k_X3_refuseLong l g b y S (f_X3_refusalInHand S (f_X3_isOneOf p0 ((1 : Int32) <<< ((S.1 0 4) &&& 31))) false)) (cwV 1 C.1.2.2.2.2 (gdV wl_453 wl_450 wl_451 wl_452 wl_2) rfl rfl rfl hd_X3_refuseLong ⟨Nat.le_of_ble_eq_true rfl, Nat.le_of_ble_eq_true rfl⟩) 0 rfl rfl _ rg_C rg_n rfl rfl (Nat.le_of_ble_eq_true rfl) ⟨Nat.zero_le _, Nat.zero_le _⟩ dX3_said_48) (wC g b y ((f_X3_refuseLong S (f_X3_refusalInHand S (f_X3_isOneOf p0 ((1 : Int32) <<< ((S.1 0 4) &&& 31))) false)).2)) (rg_put (wC_len.trans wC_len.symm)) (rg_len (wC_len.trans wC_len.symm)) 51 rfl ?_
        obtain rfl := Option.some.inj hR
        exact g_lret C hr hlocks hA (by first | (dsimp only; done) | rfl) (by first | (dsimp only; done) | rfl) dX3_said_51
    · refine g_iconst C dX3_said_30 1 ic_1 31 rfl ?_
      refine g_goto C dX3_said_31 35 (by decide) ?_
      refine g_callIR C (rn_V C (k_X3_refusalInHand l g b y S (f_X3_isOneOf p0 ((1 : Int32) <<< ((S.1 0 4) &&& 31))) true) (cwV 2 C.1.2.2.2.2 (gdV wl_353 wl_350 wl_351 wl_352 wl_2) rfl rfl rfl hd_X3_refusalInHand ⟨Nat.le_of_ble_eq_true rfl, Nat.le_of_ble_eq_true rfl⟩) 0 rfl rfl _ rg_C rg_n rfl rfl (Nat.le_of_ble_eq_true rfl) ⟨Nat.zero_le _, Nat.zero_le _⟩ dX3_said_35) 38 rfl ?_
      refine g_istore C dX3_said_38 [_, _, _, _, _, _, _, _] (Nat.le_of_ble_eq_true rfl) rfl rfl 40 rfl ?_
      refine g_iload C dX3_said_40 rfl 42 rfl ?_
      refine g_if_eq C dX3_said_42 hR 52 45 (by decide) rfl (fun c_42 hR => ?_) (fun c_42 hR => ?_)
      · refine g_aload_n C dX3_said_52 rfl 53 rfl ?_
        obtain ⟨v20, hv20, hR⟩ := opt_b hR
        refine g_callV C (rn_V C (k_X3_think l g b y S N_ v20 hv20) (cwV 0 C.1.2.2.2.2 (gdV wl_403 wl_400 wl_401 wl_402 wl_2) rfl rfl rfl hd_X3_think ⟨Nat.le_of_ble_eq_true rfl, Nat.le_of_ble_eq_true rfl⟩) 0 rfl rfl _ rg_C rg_n rfl rfl (Nat.le_of_ble_eq_true rfl) ⟨Nat.zero_le _, Nat.zero_le _⟩ dX3_said_53) (wC g b y v20) (rg_put (wC_len.trans wC_len.symm)) (rg_len (wC_len.trans wC_len.symm)) 56 rfl ?_
        refine g_aload_n C dX3_said_56 rfl 57 rfl ?_
        refine g_get (v := .ref (b 24)) C (hiC hiA_3) 0 rfl rfl 11 (by decide) (List.mem_cons_of_mem _ wl_33) rfl rfl dX3_said_57 60 rfl ?_
        obtain ⟨v21, hv21, hR⟩ := opt_b hR
        refine g_callLR C (rn_VN C (k_X2_sumOfAll l g (b 24) (b 27) (v20.2 0) N_ v21 hv21) ⟨va_cnB 0 C.1.2.2.2.2 (gdA wl_478) rfl rfl rfl (nst C (List.mem_of_getElem? (i := 18) rfl)) (C.1.2.2.2.2 _ (List.mem_cons_of_mem _ wl_32)) hd_X2_sumOfAll.2 ⟨Nat.le_of_ble_eq_true rfl, Nat.le_of_ble_eq_true rfl⟩, C.1.2.2.2.2 _ (List.mem_cons_of_mem _ wl_476), C.1.2.2.2.2 _ (List.mem_cons_of_mem _ wl_477)⟩ 39 rfl rfl [39, 42] rfl rfl rfl rfl (Nat.le_of_ble_eq_true rfl) ⟨Nat.zero_le _, Nat.zero_le _⟩ dX3_said_60) 63 rfl ?_
        refine g_lstore C dX3_said_63 [_, _, _, _, _, _, _, _] (Nat.le_of_ble_eq_true rfl) rfl rfl 65 rfl ?_
        refine g_iconst C dX3_said_65 0 ic_0 66 rfl ?_
        refine g_istore C dX3_said_66 [_, _, _, _, _, _, _, _] (Nat.le_of_ble_eq_true rfl) rfl rfl 68 rfl ?_
        refine g_lv [some (.ref (b 0)), some (.int p0), some (.int p1), some (.int p2), some (.int (f_X3_refusalInHand S (f_X3_isOneOf p0 ((1 : Int32) <<< ((S.1 0 4) &&& 31))) true)), some (.long v21), none, some (.int 0)] (lvLe.sm (lvLe.sm (lvLe.sm (lvLe.sm (lvLe.sm (lvLe.sm (lvLe.nn (lvLe.sm lvLe.nil)))))))) ?_
        obtain ⟨v22, hv22, hR⟩ := opt_b hR
        refine k_X3_said_L68 l g C N_ p0 p1 p2 (f_X3_refusalInHand S (f_X3_isOneOf p0 ((1 : Int32) <<< ((S.1 0 4) &&& 31))) true) y N_ v21 0 v20 _ hv22 ?_
        refine g_iload_n C dX3_said_116 rfl 117 rfl ?_
        refine g_if_ne C dX3_said_117 hR 134 120 (by decide) rfl (fun c_117 hR => ?_) (fun c_117 hR => ?_)
        · refine g_aload_n C dX3_said_134 rfl 135 rfl ?_
          refine g_get (v := .ref (b 24)) C (hiC hiA_3) 0 rfl rfl 11 (by decide) (List.mem_cons_of_mem _ wl_33) rfl rfl dX3_said_135 138 rfl ?_
          refine g_iconst C dX3_said_138 0 ic_0 139 rfl ?_
          refine g_iconst C dX3_said_139 1 ic_1 140 rfl ?_
          obtain ⟨v23, hv23, hR⟩ := opt_b hR
          refine g_callLR C (rn_VN C (k_X2_sumOf l g (b 24) (b 27) (v22.2.2.2 0) 0 1 N_ v23 hv23) ⟨va_cnB 2 C.1.2.2.2.2 (gdA wl_427) rfl rfl rfl (nst C (List.mem_of_getElem? (i := 17) rfl)) (C.1.2.2.2.2 _ (List.mem_cons_of_mem _ wl_32)) hd_X2_sumOf.2 ⟨Nat.le_of_ble_eq_true rfl, Nat.le_of_ble_eq_true rfl⟩, C.1.2.2.2.2 _ (List.mem_cons_of_mem _ wl_425), C.1.2.2.2.2 _ (List.mem_cons_of_mem _ wl_426)⟩ 39 rfl rfl [39, 42] rfl rfl rfl rfl (Nat.le_of_ble_eq_true rfl) ⟨Nat.zero_le _, Nat.zero_le _⟩ dX3_said_140) 143 rfl ?_
          refine g_aload_n C dX3_said_143 rfl 144 rfl ?_
          refine g_get (v := .ref (b 24)) C (hiC hiA_3) 0 rfl rfl 11 (by decide) (List.mem_cons_of_mem _ wl_33) rfl rfl dX3_said_144 147 rfl ?_
          obtain ⟨v24, hv24, hR⟩ := opt_b hR
          refine g_callLR C (rn_VN C (k_X2_sumOfAll l g (b 24) (b 27) (v22.2.2.2 0) N_ v24 hv24) ⟨va_cnB 0 C.1.2.2.2.2 (gdA wl_478) rfl rfl rfl (nst C (List.mem_of_getElem? (i := 18) rfl)) (C.1.2.2.2.2 _ (List.mem_cons_of_mem _ wl_32)) hd_X2_sumOfAll.2 ⟨Nat.le_of_ble_eq_true rfl, Nat.le_of_ble_eq_true rfl⟩, C.1.2.2.2.2 _ (List.mem_cons_of_mem _ wl_476), C.1.2.2.2.2 _ (List.mem_cons_of_mem _ wl_477)⟩ 39 rfl rfl [39, 42] rfl rfl rfl rfl (Nat.le_of_ble_eq_true rfl) ⟨Nat.zero_le _, Nat.zero_le _⟩ dX3_said_147) 150 rfl ?_
          refine g_iload_n C dX3_said_150 rfl 151 rfl ?_
          obtain ⟨v25, hv25, hR⟩ := opt_b hR
          refine g_callLR C (rn_S C (k_X3_inLeastTerms l g v23 v24 p2 N_ v25 hv25) (va_cwS 3 C.1.2.2.2.2 (gdS wl_481 wl_479 wl_480 wl_2) rfl rfl rfl hd_X3_inLeastTerms.2 ⟨Nat.le_of_ble_eq_true rfl, Nat.le_of_ble_eq_true rfl⟩) [] rfl rfl rfl rfl (Nat.le_of_ble_eq_true rfl) ⟨Nat.zero_le _, Nat.zero_le _⟩ dX3_said_151) 154 rfl ?_
          obtain rfl := Option.some.inj hR
          exact g_lret C hr hlocks hA (by first | (dsimp only; done) | rfl) (by first | (dsimp only; done) | rfl) dX3_said_154
        · refine g_aload_n C dX3_said_120 rfl 121 rfl ?_
          refine g_get (v := .ref (b 24)) C (hiC hiA_3) 0 rfl rfl 11 (by decide) (List.mem_cons_of_mem _ wl_33) rfl rfl dX3_said_121 124 rfl ?_
          obtain ⟨v26, hv26, hR⟩ := opt_b hR
          refine g_callLR C (rn_VN C (k_X2_sumOfAll l g (b 24) (b 27) (v22.2.2.2 0) N_ v26 hv26) ⟨va_cnB 0 C.1.2.2.2.2 (gdA wl_478) rfl rfl rfl (nst C (List.mem_of_getElem? (i := 18) rfl)) (C.1.2.2.2.2 _ (List.mem_cons_of_mem _ wl_32)) hd_X2_sumOfAll.2 ⟨Nat.le_of_ble_eq_true rfl, Nat.le_of_ble_eq_true rfl⟩, C.1.2.2.2.2 _ (List.mem_cons_of_mem _ wl_476), C.1.2.2.2.2 _ (List.mem_cons_of_mem _ wl_477)⟩ 39 rfl rfl [39, 42] rfl rfl rfl rfl (Nat.le_of_ble_eq_true rfl) ⟨Nat.zero_le _, Nat.zero_le _⟩ dX3_said_124) 127 rfl ?_
          refine g_lload C dX3_said_127 rfl 129 rfl ?_
          refine g_iload_n C dX3_said_129 rfl 130 rfl ?_
          obtain ⟨v27, hv27, hR⟩ := opt_b hR
          refine g_callLR C (rn_S C (k_X3_inLeastTerms l g v26 v22.1 p2 N_ v27 hv27) (va_cwS 3 C.1.2.2.2.2 (gdS wl_481 wl_479 wl_480 wl_2) rfl rfl rfl hd_X3_inLeastTerms.2 ⟨Nat.le_of_ble_eq_true rfl, Nat.le_of_ble_eq_true rfl⟩) [] rfl rfl rfl rfl (Nat.le_of_ble_eq_true rfl) ⟨Nat.zero_le _, Nat.zero_le _⟩ dX3_said_130) 133 rfl ?_
          obtain rfl := Option.some.inj hR
          exact g_lret C hr hlocks hA (by first | (dsimp only; done) | rfl) (by first | (dsimp only; done) | rfl) dX3_said_133
      · refine g_aload_n C dX3_said_45 rfl 46 rfl ?_
        refine g_iload C dX3_said_46 rfl 48 rfl ?_
        refine g_callL C (rn_V C (k_X3_refuseLong l g b y S (f_X3_refusalInHand S (f_X3_isOneOf p0 ((1 : Int32) <<< ((S.1 0 4) &&& 31))) true)) (cwV 1 C.1.2.2.2.2 (gdV wl_453 wl_450 wl_451 wl_452 wl_2) rfl rfl rfl hd_X3_refuseLong ⟨Nat.le_of_ble_eq_true rfl, Nat.le_of_ble_eq_true rfl⟩) 0 rfl rfl _ rg_C rg_n rfl rfl (Nat.le_of_ble_eq_true rfl) ⟨Nat.zero_le _, Nat.zero_le _⟩ dX3_said_48) (wC g b y ((f_X3_refuseLong S (f_X3_refusalInHand S (f_X3_isOneOf p0 ((1 : Int32) <<< ((S.1 0 4) &&& 31))) true)).2)) (rg_put (wC_len.trans wC_len.symm)) (rg_len (wC_len.trans wC_len.symm)) 51 rfl ?_
        obtain rfl := Option.some.inj hR
        exact g_lret C hr hlocks hA (by first | (dsimp only; done) | rfl) (by first | (dsimp only; done) | rfl) dX3_said_51
theorem hd_X3_ask : yX3_ask.cls = RX3 ∧ yX3_ask.cls ≠ "java/lang/invoke/MethodHandle" ∧ yX3_ask.cls ≠ "java/lang/invoke/VarHandle" ∧ (parseMethodDescriptor yX3_ask.desc).map (fun d => d.parameters.length) = some 0 := by decide +kernel
def f_X3_ask_L27  (N_ : Nat) : Nat → Int32 → Int64 → Int32 → ((Nat → Nat → Int32) × (Nat → Nat → Int64)) → Option (Int32 × Int64 × Int32 × ((Nat → Nat → Int32) × (Nat → Nat → Int64)))
  | 0, _, _, _, _ => none
  | n_ + 1, x2, x3, x5, S =>
    if (S.1 0 4) ≤ x5 then
      some (x2, x3, x5, S)
    else
      (f_X3_toldRightly S (f_X3_at (S.1 4) 4 x5) N_).bind fun v3 =>
      if (lg_cmp v3.1 x3) ≤ 0 then
        f_X3_ask_L27 N_ n_ x2 x3 (x5 + 1) v3.2
      else
        f_X3_ask_L27 N_ n_ x5 v3.1 (x5 + 1) v3.2
set_option maxRecDepth 100000 in
set_option maxHeartbeats 4000000 in
theorem k_X3_ask_L27 (l : Launch) (g : gE) {p : Program} {e : Env} {s : State} {m : MethodId} {args : Array Value} {below : List Frame} {meth : Method} {c : Code} {Q : State → Prop} {A : Nat → Prop} {b : Nat → Nat}  (C : Cx p s m args c g A cX3_ask 8 wA_X3_ask RX3) (N_ : Nat) (x1 : Int32) (y : Nat → Nat → Nat) : ∀ (n_ : Nat) (x2 : Int32) (x3 : Int64) (x5 : Int32) (S : (Nat → Nat → Int32) × (Nat → Nat → Int64)) (rv_ : Int32 × Int64 × Int32 × ((Nat → Nat → Int32) × (Nat → Nat → Int64))), f_X3_ask_L27 N_ n_ x2 x3 x5 S = some rv_ → (Gm p l e (headSpec wA_X3_ask ({ frames := 6, cells := 0, slots := 0, locals := 130 } : Room)).room s m args below meth c Q g A 8 0 0 (wC g b y rv_.2.2.2) [some (.ref (b 0)), some (.int x1), some (.int rv_.1), some (.long rv_.2.1), none, some (.int rv_.2.2.1), none, none] [] 76) → Gm p l e (headSpec wA_X3_ask ({ frames := 6, cells := 0, slots := 0, locals := 130 } : Room)).room s m args below meth c Q g A 8 0 0 (wC g b y S) [some (.ref (b 0)), some (.int x1), some (.int x2), some (.long x3), none, some (.int x5), none, none] [] 27 := by
  intro n_
  induction n_ with
  | zero =>
    intro x2 x3 x5 S rv_ hR
    simp [f_X3_ask_L27] at hR
  | succ n_ ih =>
    intro x2 x3 x5 S rv_ hR hk
    rw [f_X3_ask_L27] at hR
    refine g_iload C dX3_ask_27 rfl 29 rfl ?_
    refine g_aload_n C dX3_ask_29 rfl 30 rfl ?_
    refine g_get (v := .ref (b 1)) C (hiC hiA_3) 0 rfl rfl 0 (by decide) (List.mem_cons_of_mem _ wl_15) rfl rfl dX3_ask_30 33 rfl ?_
    refine g_getN (v := .int (S.1 0 4)) C (hiC hiA_1) 1 rfl rfl 9 (by decide) (List.mem_of_getElem? (i := 9) rfl) rfl rfl dX3_ask_33 36 rfl ?_
    refine g_icmp_ge C dX3_ask_36 hR 76 39 (by decide) rfl (fun c_36 hR => ?_) (fun c_36 hR => ?_)
    · obtain rfl := Option.some.inj hR
      refine g_lv [some (.ref (b 0)), some (.int x1), some (.int x2), some (.long x3), none, some (.int x5), none, none] (lvLe.sm (lvLe.sm (lvLe.sm (lvLe.sm (lvLe.nn (lvLe.sm (lvLe.nn (lvLe.nn lvLe.nil)))))))) ?_
      exact hk
    · refine g_aload_n C dX3_ask_39 rfl 40 rfl ?_
      refine g_aload_n C dX3_ask_40 rfl 41 rfl ?_
      refine g_get (v := .ref (b 1)) C (hiC hiA_3) 0 rfl rfl 0 (by decide) (List.mem_cons_of_mem _ wl_15) rfl rfl dX3_ask_41 44 rfl ?_
      refine g_getN (v := .ref (b 6)) C (hiC hiA_1) 1 rfl rfl 8 (by decide) (List.mem_of_getElem? (i := 10) rfl) rfl rfl dX3_ask_44 47 rfl ?_
      refine g_iload C dX3_ask_47 rfl 49 rfl ?_
      refine g_callIR C (rn_S C (k_X3_at l g (b 6) (S.1 4) 4 x5 (by decide)) (va_cwS 2 C.1.2.2.2.2 (gdS wl_130 wl_128 wl_129 wl_2) rfl rfl rfl hd_X3_at.2 ⟨Nat.le_of_ble_eq_true rfl, Nat.le_of_ble_eq_true rfl⟩) [6] rfl rfl rfl rfl (Nat.le_of_ble_eq_true rfl) ⟨Nat.zero_le _, Nat.zero_le _⟩ dX3_ask_49) 52 rfl ?_
      obtain ⟨v3, hv3, hR⟩ := opt_b hR
      refine g_callL C (rn_V C (k_X3_toldRightly l g b y S (f_X3_at (S.1 4) 4 x5) N_ v3 hv3) (cwV 1 C.1.2.2.2.2 (gdV wl_760 wl_757 wl_758 wl_759 wl_2) rfl rfl rfl hd_X3_toldRightly ⟨Nat.le_of_ble_eq_true rfl, Nat.le_of_ble_eq_true rfl⟩) 0 rfl rfl _ rg_C rg_n rfl rfl (Nat.le_of_ble_eq_true rfl) ⟨Nat.zero_le _, Nat.zero_le _⟩ dX3_ask_52) (wC g b y v3.2) (rg_put (wC_len.trans wC_len.symm)) (rg_len (wC_len.trans wC_len.symm)) 55 rfl ?_
      refine g_lstore C dX3_ask_55 [_, _, _, _, _, _, _, _] (Nat.le_of_ble_eq_true rfl) rfl rfl 57 rfl ?_
      refine g_lload C dX3_ask_57 rfl 59 rfl ?_
      refine g_lload_n C dX3_ask_59 rfl 60 rfl ?_
      refine g_lcmp C dX3_ask_60 61 rfl ?_
      refine g_if_le C dX3_ask_61 hR 70 64 (by decide) rfl (fun c_61 hR => ?_) (fun c_61 hR => ?_)
      · refine g_iinc C dX3_ask_70 rfl 1 ic_1 [_, _, _, _, _, _, _, _] (Nat.le_of_ble_eq_true rfl) rfl rfl 73 rfl ?_
        refine g_goto C dX3_ask_73 27 (by decide) ?_
        refine g_lv [some (.ref (b 0)), some (.int x1), some (.int x2), some (.long x3), none, some (.int (x5 + 1)), none, none] (lvLe.sm (lvLe.sm (lvLe.sm (lvLe.sm (lvLe.nn (lvLe.sm (lvLe.nn (lvLe.nn lvLe.nil)))))))) ?_
        exact ih _ _ _ _ rv_ hR hk
      · refine g_lload C dX3_ask_64 rfl 66 rfl ?_
        refine g_lstore_n C dX3_ask_66 [_, _, _, _, _, _, _, _] (Nat.le_of_ble_eq_true rfl) rfl rfl 67 rfl ?_
        refine g_iload C dX3_ask_67 rfl 69 rfl ?_
        refine g_istore_n C dX3_ask_69 [_, _, _, _, _, _, _, _] (Nat.le_of_ble_eq_true rfl) rfl rfl 70 rfl ?_
        refine g_iinc C dX3_ask_70 rfl 1 ic_1 [_, _, _, _, _, _, _, _] (Nat.le_of_ble_eq_true rfl) rfl rfl 73 rfl ?_
        refine g_goto C dX3_ask_73 27 (by decide) ?_
        refine g_lv [some (.ref (b 0)), some (.int x1), some (.int x5), some (.long v3.1), none, some (.int (x5 + 1)), none, none] (lvLe.sm (lvLe.sm (lvLe.sm (lvLe.sm (lvLe.nn (lvLe.sm (lvLe.nn (lvLe.nn lvLe.nil)))))))) ?_
        exact ih _ _ _ _ rv_ hR hk
def f_X3_ask (S : (Nat → Nat → Int32) × (Nat → Nat → Int64)) (N_ : Nat) : Option (Int32 × ((Nat → Nat → Int32) × (Nat → Nat → Int64))) :=
  if (f_X3_refusalInHand S true true) = 0 then
    (f_X3_ask_L27 N_ N_ (-9) (-1) 0 S).bind fun v4 =>
    some (v4.1, v4.2.2.2)
  else
    some ((f_X3_refuse S (f_X3_refusalInHand S true true)).1, (f_X3_refuse S (f_X3_refusalInHand S true true)).2)
set_option maxRecDepth 100000 in
set_option maxHeartbeats 4000000 in
theorem k_X3_ask (l : Launch) (g : gE) (b : Nat → Nat) (y : Nat → Nat → Nat) (S : (Nat → Nat → Int32) × (Nat → Nat → Int64)) (N_ : Nat) (R_ : Int32 × ((Nat → Nat → Int32) × (Nat → Nat → Int64))) (hR : f_X3_ask S N_ = some R_) : FnI l g yX3_ask wA_X3_ask { frames := 6, cells := 0, slots := 0, locals := 130 } [.ref (b 0)] (wC g b y S) R_.1 (wC g b y R_.2) := by
  refine fEntry (As := [.ref (b 0)]) (maxL := 8) (ret := (some .int)) (by decide) rfl [some (.ref (b 0)), none, none, none, none, none, none, none] (Nat.le_of_ble_eq_true rfl) (lvInB.to (lvInB.sm (lvInB.nn (lvInB.nn (lvInB.nn (lvInB.nn (lvInB.nn (lvInB.nn (lvInB.nn lvInB.nil))))))))) ?_
  intro p e s m below meth c A C hr hlocks hname hA
  have C : Cx p s m _ c g A cX3_ask 8 wA_X3_ask RX3 := C
  rw [f_X3_ask] at hR
  refine g_aload_n C dX3_ask_0 rfl 1 rfl ?_
  refine g_iconst C dX3_ask_1 1 ic_1 2 rfl ?_
  refine g_iconst C dX3_ask_2 1 ic_1 3 rfl ?_
  refine g_callIR C (rn_V C (k_X3_refusalInHand l g b y S true true) (cwV 2 C.1.2.2.2.2 (gdV wl_353 wl_350 wl_351 wl_352 wl_2) rfl rfl rfl hd_X3_refusalInHand ⟨Nat.le_of_ble_eq_true rfl, Nat.le_of_ble_eq_true rfl⟩) 0 rfl rfl _ rg_C rg_n rfl rfl (Nat.le_of_ble_eq_true rfl) ⟨Nat.zero_le _, Nat.zero_le _⟩ dX3_ask_3) 6 rfl ?_
  refine g_istore_n C dX3_ask_6 [_, _, _, _, _, _, _, _] (Nat.le_of_ble_eq_true rfl) rfl rfl 7 rfl ?_
  refine g_iload_n C dX3_ask_7 rfl 8 rfl ?_
  refine g_if_eq C dX3_ask_8 hR 17 11 (by decide) rfl (fun c_8 hR => ?_) (fun c_8 hR => ?_)
  · refine g_bipush C dX3_ask_17 (-9) bp_m9 19 rfl ?_
    refine g_istore_n C dX3_ask_19 [_, _, _, _, _, _, _, _] (Nat.le_of_ble_eq_true rfl) rfl rfl 20 rfl ?_
    refine g_ldc2 C dX3_ask_20 (C.1.2.2.2.2 _ (List.mem_cons_of_mem _ wl_756)) 23 rfl ?_
    refine g_lstore_n C dX3_ask_23 [_, _, _, _, _, _, _, _] (Nat.le_of_ble_eq_true rfl) rfl rfl 24 rfl ?_
    refine g_iconst C dX3_ask_24 0 ic_0 25 rfl ?_
    refine g_istore C dX3_ask_25 [_, _, _, _, _, _, _, _] (Nat.le_of_ble_eq_true rfl) rfl rfl 27 rfl ?_
    refine g_lv [some (.ref (b 0)), some (.int (f_X3_refusalInHand S true true)), some (.int (-9)), some (.long (-1)), none, some (.int 0), none, none] (lvLe.sm (lvLe.sm (lvLe.sm (lvLe.sm (lvLe.nn (lvLe.sm (lvLe.nn (lvLe.nn lvLe.nil)))))))) ?_
    obtain ⟨v4, hv4, hR⟩ := opt_b hR
    refine k_X3_ask_L27 l g C N_ (f_X3_refusalInHand S true true) y N_ (-9) (-1) 0 S _ hv4 ?_
    refine g_iload_n C dX3_ask_76 rfl 77 rfl ?_
    obtain rfl := Option.some.inj hR
    exact g_iret C hr hlocks hA (by first | (dsimp only; done) | rfl) (by first | (dsimp only; done) | rfl) dX3_ask_77
  · refine g_aload_n C dX3_ask_11 rfl 12 rfl ?_
    refine g_iload_n C dX3_ask_12 rfl 13 rfl ?_
    refine g_callI C (rn_V C (k_X3_refuse l g b y S (f_X3_refusalInHand S true true)) (cwV 1 C.1.2.2.2.2 (gdV wl_99 wl_96 wl_97 wl_98 wl_2) rfl rfl rfl hd_X3_refuse ⟨Nat.le_of_ble_eq_true rfl, Nat.le_of_ble_eq_true rfl⟩) 0 rfl rfl _ rg_C rg_n rfl rfl (Nat.le_of_ble_eq_true rfl) ⟨Nat.zero_le _, Nat.zero_le _⟩ dX3_ask_13) (wC g b y ((f_X3_refuse S (f_X3_refusalInHand S true true)).2)) (rg_put (wC_len.trans wC_len.symm)) (rg_len (wC_len.trans wC_len.symm)) 16 rfl ?_
    obtain rfl := Option.some.inj hR
    exact g_iret C hr hlocks hA (by first | (dsimp only; done) | rfl) (by first | (dsimp only; done) | rfl) dX3_ask_16
