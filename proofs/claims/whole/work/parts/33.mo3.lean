theorem hd_X4_saysOff : yX4_saysOff.cls = RX4 ∧ yX4_saysOff.cls ≠ "java/lang/invoke/MethodHandle" ∧ yX4_saysOff.cls ≠ "java/lang/invoke/VarHandle" ∧ (parseMethodDescriptor yX4_saysOff.desc).map (fun d => d.parameters.length) = some 2 := by decide +kernel
def f_X4_saysOff (S : (Nat → Nat → Int32) × (Nat → Nat → Int64)) (p0 : Int32) (p1 : Int32) (N_ : Nat) : Option (Int32) :=
  if (S.1 0 1) < 0 ∨ 5 ≤ (Int32.toNatClampNeg (S.1 0 1)) then none else
  if p0 = 0 then
    if ((S.1 2) (Int32.toNatClampNeg (S.1 0 1))) = 1 then
      if p0 = 3 then
        if ((S.1 2) (Int32.toNatClampNeg (S.1 0 1))) = 3 then
          some (f_X4_held ((f_X4_tenthsOf p0 p1) + (-2)))
        else
          some (f_X4_held ((f_X4_tenthsOf p0 p1) + 1))
      else
        some (f_X4_held ((f_X4_tenthsOf p0 p1) + 1))
    else
      if ((S.1 2) (Int32.toNatClampNeg (S.1 0 1))) = 5 then
        if p0 = 3 then
          if ((S.1 2) (Int32.toNatClampNeg (S.1 0 1))) = 3 then
            some (f_X4_held ((f_X4_tenthsOf p0 p1) + (-2)))
          else
            some (f_X4_held ((f_X4_tenthsOf p0 p1) + 1))
        else
          some (f_X4_held ((f_X4_tenthsOf p0 p1) + 1))
      else
        if ((S.1 2) (Int32.toNatClampNeg (S.1 0 1))) = 2 then
          if p0 = 3 then
            if ((S.1 2) (Int32.toNatClampNeg (S.1 0 1))) = 3 then
              some (f_X4_held ((f_X4_tenthsOf p0 p1) + (-2)))
            else
              some (f_X4_held ((f_X4_tenthsOf p0 p1) + (-1)))
          else
            some (f_X4_held ((f_X4_tenthsOf p0 p1) + (-1)))
        else
          if ((S.1 2) (Int32.toNatClampNeg (S.1 0 1))) = 4 then
            if p0 = 3 then
              if ((S.1 2) (Int32.toNatClampNeg (S.1 0 1))) = 3 then
                some (f_X4_held ((f_X4_tenthsOf p0 p1) + (-2)))
              else
                some (f_X4_held ((f_X4_tenthsOf p0 p1) + (-1)))
            else
              some (f_X4_held ((f_X4_tenthsOf p0 p1) + (-1)))
          else
            if p0 = 3 then
              if ((S.1 2) (Int32.toNatClampNeg (S.1 0 1))) = 3 then
                some (f_X4_held ((f_X4_tenthsOf p0 p1) + (-2)))
              else
                some (f_X4_held ((f_X4_tenthsOf p0 p1) + 0))
            else
              some (f_X4_held ((f_X4_tenthsOf p0 p1) + 0))
  else
    if p0 = 3 then
      if ((S.1 2) (Int32.toNatClampNeg (S.1 0 1))) = 3 then
        some (f_X4_held ((f_X4_tenthsOf p0 p1) + (-2)))
      else
        some (f_X4_held ((f_X4_tenthsOf p0 p1) + 0))
    else
      some (f_X4_held ((f_X4_tenthsOf p0 p1) + 0))
set_option maxRecDepth 100000 in
set_option maxHeartbeats 4000000 in
theorem k_X4_saysOff (l : Launch) (g : gE) (b : Nat → Nat) (S : (Nat → Nat → Int32) × (Nat → Nat → Int64)) (p0 : Int32) (p1 : Int32) (N_ : Nat) (R_ : Int32) (hR : f_X4_saysOff S p0 p1 N_ = some R_) : FnI l g yX4_saysOff wA_X4_saysOff { frames := 1, cells := 0, slots := 0, locals := 21 } [.ref (b 0), .int p0, .int p1] (wM g b S) R_ (wM g b S) := by
  refine fEntry (As := [.ref (b 0), .int p0, .int p1]) (maxL := 5) (ret := (some .int)) (by decide) rfl [some (.ref (b 0)), some (.int p0), some (.int p1), none, none] (Nat.le_of_ble_eq_true rfl) (lvInB.to (lvInB.sm (lvInB.sm (lvInB.sm (lvInB.nn (lvInB.nn lvInB.nil)))))) ?_
  intro p e s m below meth c A C hr hlocks hname hA
  have C : Cx p s m _ c g A cX4_saysOff 5 wA_X4_saysOff RX4 := C
  rw [f_X4_saysOff] at hR
  refine g_aload_n C dX4_saysOff_0 rfl 1 rfl ?_
  refine g_get (v := .ref (b 2)) C (hiC hiA_4) 0 rfl rfl 1 (by decide) (List.mem_cons_of_mem _ wl_67) rfl rfl dX4_saysOff_1 4 rfl ?_
  refine g_aload_n C dX4_saysOff_4 rfl 5 rfl ?_
  refine g_get (v := .int (S.1 0 1)) C (hiC hiA_4) 0 rfl rfl 10 (by decide) (List.mem_cons_of_mem _ wl_240) rfl rfl dX4_saysOff_5 8 rfl ?_
  obtain ⟨h_8, hR⟩ := opt_n hR
  refine g_iald (f := (S.1 2)) C 2 rfl h_8 dX4_saysOff_8 9 rfl ?_
  refine g_istore_n C dX4_saysOff_9 [_, _, _, _, _] (Nat.le_of_ble_eq_true rfl) rfl rfl 10 rfl ?_
  refine g_iconst C dX4_saysOff_10 0 ic_0 11 rfl ?_
  refine g_istore C dX4_saysOff_11 [_, _, _, _, _] (Nat.le_of_ble_eq_true rfl) rfl rfl 13 rfl ?_
  refine g_iload_n C dX4_saysOff_13 rfl 14 rfl ?_
  refine g_if_ne C dX4_saysOff_14 hR 48 17 (by decide) rfl (fun c_14 hR => ?_) (fun c_14 hR => ?_)
  · refine g_iload_n C dX4_saysOff_48 rfl 49 rfl ?_
    refine g_iconst C dX4_saysOff_49 3 ic_3 50 rfl ?_
    refine g_icmp_ne C dX4_saysOff_50 hR 62 53 (by decide) rfl (fun c_50 hR => ?_) (fun c_50 hR => ?_)
    · refine g_iload_n C dX4_saysOff_62 rfl 63 rfl ?_
      refine g_iload_n C dX4_saysOff_63 rfl 64 rfl ?_
      refine g_callIR C (rn_S C (k_X4_tenthsOf l g p0 p1) (va_cwS 2 C.1.2.2.2.2 (gdS wl_442 wl_440 wl_441 wl_5) rfl rfl rfl hd_X4_tenthsOf.2 ⟨Nat.le_of_ble_eq_true rfl, Nat.le_of_ble_eq_true rfl⟩) [] rfl rfl rfl rfl (Nat.le_of_ble_eq_true rfl) ⟨Nat.zero_le _, Nat.zero_le _⟩ dX4_saysOff_64) 67 rfl ?_
      refine g_iload C dX4_saysOff_67 rfl 69 rfl ?_
      refine g_iadd C dX4_saysOff_69 70 rfl ?_
      refine g_callIR C (rn_S C (k_X4_held l g ((f_X4_tenthsOf p0 p1) + 0)) (va_cwS 1 C.1.2.2.2.2 (gdS wl_445 wl_443 wl_444 wl_5) rfl rfl rfl hd_X4_held.2 ⟨Nat.le_of_ble_eq_true rfl, Nat.le_of_ble_eq_true rfl⟩) [] rfl rfl rfl rfl (Nat.le_of_ble_eq_true rfl) ⟨Nat.zero_le _, Nat.zero_le _⟩ dX4_saysOff_70) 73 rfl ?_
      obtain rfl := Option.some.inj hR
      exact g_iret C hr hlocks hA (by first | (dsimp only; done) | rfl) (by first | (dsimp only; done) | rfl) dX4_saysOff_73
    · refine g_iload_n C dX4_saysOff_53 rfl 54 rfl ?_
      refine g_iconst C dX4_saysOff_54 3 ic_3 55 rfl ?_
      refine g_icmp_ne C dX4_saysOff_55 hR 62 58 (by decide) rfl (fun c_55 hR => ?_) (fun c_55 hR => ?_)
      · refine g_iload_n C dX4_saysOff_62 rfl 63 rfl ?_
        refine g_iload_n C dX4_saysOff_63 rfl 64 rfl ?_
        refine g_callIR C (rn_S C (k_X4_tenthsOf l g p0 p1) (va_cwS 2 C.1.2.2.2.2 (gdS wl_442 wl_440 wl_441 wl_5) rfl rfl rfl hd_X4_tenthsOf.2 ⟨Nat.le_of_ble_eq_true rfl, Nat.le_of_ble_eq_true rfl⟩) [] rfl rfl rfl rfl (Nat.le_of_ble_eq_true rfl) ⟨Nat.zero_le _, Nat.zero_le _⟩ dX4_saysOff_64) 67 rfl ?_
        refine g_iload C dX4_saysOff_67 rfl 69 rfl ?_
        refine g_iadd C dX4_saysOff_69 70 rfl ?_
        refine g_callIR C (rn_S C (k_X4_held l g ((f_X4_tenthsOf p0 p1) + 0)) (va_cwS 1 C.1.2.2.2.2 (gdS wl_445 wl_443 wl_444 wl_5) rfl rfl rfl hd_X4_held.2 ⟨Nat.le_of_ble_eq_true rfl, Nat.le_of_ble_eq_true rfl⟩) [] rfl rfl rfl rfl (Nat.le_of_ble_eq_true rfl) ⟨Nat.zero_le _, Nat.zero_le _⟩ dX4_saysOff_70) 73 rfl ?_
        obtain rfl := Option.some.inj hR
        exact g_iret C hr hlocks hA (by first | (dsimp only; done) | rfl) (by first | (dsimp only; done) | rfl) dX4_saysOff_73
      · refine g_bipush C dX4_saysOff_58 (-2) bp_m2 60 rfl ?_
        refine g_istore C dX4_saysOff_60 [_, _, _, _, _] (Nat.le_of_ble_eq_true rfl) rfl rfl 62 rfl ?_
        refine g_iload_n C dX4_saysOff_62 rfl 63 rfl ?_
        refine g_iload_n C dX4_saysOff_63 rfl 64 rfl ?_
        refine g_callIR C (rn_S C (k_X4_tenthsOf l g p0 p1) (va_cwS 2 C.1.2.2.2.2 (gdS wl_442 wl_440 wl_441 wl_5) rfl rfl rfl hd_X4_tenthsOf.2 ⟨Nat.le_of_ble_eq_true rfl, Nat.le_of_ble_eq_true rfl⟩) [] rfl rfl rfl rfl (Nat.le_of_ble_eq_true rfl) ⟨Nat.zero_le _, Nat.zero_le _⟩ dX4_saysOff_64) 67 rfl ?_
        refine g_iload C dX4_saysOff_67 rfl 69 rfl ?_
        refine g_iadd C dX4_saysOff_69 70 rfl ?_
        refine g_callIR C (rn_S C (k_X4_held l g ((f_X4_tenthsOf p0 p1) + (-2))) (va_cwS 1 C.1.2.2.2.2 (gdS wl_445 wl_443 wl_444 wl_5) rfl rfl rfl hd_X4_held.2 ⟨Nat.le_of_ble_eq_true rfl, Nat.le_of_ble_eq_true rfl⟩) [] rfl rfl rfl rfl (Nat.le_of_ble_eq_true rfl) ⟨Nat.zero_le _, Nat.zero_le _⟩ dX4_saysOff_70) 73 rfl ?_
        obtain rfl := Option.some.inj hR
        exact g_iret C hr hlocks hA (by first | (dsimp only; done) | rfl) (by first | (dsimp only; done) | rfl) dX4_saysOff_73
  · refine g_iload_n C dX4_saysOff_17 rfl 18 rfl ?_
    refine g_iconst C dX4_saysOff_18 1 ic_1 19 rfl ?_
    refine g_icmp_eq C dX4_saysOff_19 hR 27 22 (by decide) rfl (fun c_19 hR => ?_) (fun c_19 hR => ?_)
    · refine g_iconst C dX4_saysOff_27 1 ic_1 28 rfl ?_
      refine g_goto C dX4_saysOff_28 46 (by decide) ?_
      refine g_istore C dX4_saysOff_46 [_, _, _, _, _] (Nat.le_of_ble_eq_true rfl) rfl rfl 48 rfl ?_
      refine g_iload_n C dX4_saysOff_48 rfl 49 rfl ?_
      refine g_iconst C dX4_saysOff_49 3 ic_3 50 rfl ?_
      refine g_icmp_ne C dX4_saysOff_50 hR 62 53 (by decide) rfl (fun c_50 hR => ?_) (fun c_50 hR => ?_)
      · refine g_iload_n C dX4_saysOff_62 rfl 63 rfl ?_
        refine g_iload_n C dX4_saysOff_63 rfl 64 rfl ?_
        refine g_callIR C (rn_S C (k_X4_tenthsOf l g p0 p1) (va_cwS 2 C.1.2.2.2.2 (gdS wl_442 wl_440 wl_441 wl_5) rfl rfl rfl hd_X4_tenthsOf.2 ⟨Nat.le_of_ble_eq_true rfl, Nat.le_of_ble_eq_true rfl⟩) [] rfl rfl rfl rfl (Nat.le_of_ble_eq_true rfl) ⟨Nat.zero_le _, Nat.zero_le _⟩ dX4_saysOff_64) 67 rfl ?_
        refine g_iload C dX4_saysOff_67 rfl 69 rfl ?_
        refine g_iadd C dX4_saysOff_69 70 rfl ?_
        refine g_callIR C (rn_S C (k_X4_held l g ((f_X4_tenthsOf p0 p1) + 1)) (va_cwS 1 C.1.2.2.2.2 (gdS wl_445 wl_443 wl_444 wl_5) rfl rfl rfl hd_X4_held.2 ⟨Nat.le_of_ble_eq_true rfl, Nat.le_of_ble_eq_true rfl⟩) [] rfl rfl rfl rfl (Nat.le_of_ble_eq_true rfl) ⟨Nat.zero_le _, Nat.zero_le _⟩ dX4_saysOff_70) 73 rfl ?_
        obtain rfl := Option.some.inj hR
        exact g_iret C hr hlocks hA (by first | (dsimp only; done) | rfl) (by first | (dsimp only; done) | rfl) dX4_saysOff_73
      · refine g_iload_n C dX4_saysOff_53 rfl 54 rfl ?_
        refine g_iconst C dX4_saysOff_54 3 ic_3 55 rfl ?_
        refine g_icmp_ne C dX4_saysOff_55 hR 62 58 (by decide) rfl (fun c_55 hR => ?_) (fun c_55 hR => ?_)
        · refine g_iload_n C dX4_saysOff_62 rfl 63 rfl ?_
          refine g_iload_n C dX4_saysOff_63 rfl 64 rfl ?_
          refine g_callIR C (rn_S C (k_X4_tenthsOf l g p0 p1) (va_cwS 2 C.1.2.2.2.2 (gdS wl_442 wl_440 wl_441 wl_5) rfl rfl rfl hd_X4_tenthsOf.2 ⟨Nat.le_of_ble_eq_true rfl, Nat.le_of_ble_eq_true rfl⟩) [] rfl rfl rfl rfl (Nat.le_of_ble_eq_true rfl) ⟨Nat.zero_le _, Nat.zero_le _⟩ dX4_saysOff_64) 67 rfl ?_
          refine g_iload C dX4_saysOff_67 rfl 69 rfl ?_
          refine g_iadd C dX4_saysOff_69 70 rfl ?_
          refine g_callIR C (rn_S C (k_X4_held l g ((f_X4_tenthsOf p0 p1) + 1)) (va_cwS 1 C.1.2.2.2.2 (gdS wl_445 wl_443 wl_444 wl_5) rfl rfl rfl hd_X4_held.2 ⟨Nat.le_of_ble_eq_true rfl, Nat.le_of_ble_eq_true rfl⟩) [] rfl rfl rfl rfl (Nat.le_of_ble_eq_true rfl) ⟨Nat.zero_le _, Nat.zero_le _⟩ dX4_saysOff_70) 73 rfl ?_
          obtain rfl := Option.some.inj hR
          exact g_iret C hr hlocks hA (by first | (dsimp only; done) | rfl) (by first | (dsimp only; done) | rfl) dX4_saysOff_73
        · refine g_bipush C dX4_saysOff_58 (-2) bp_m2 60 rfl ?_
          refine g_istore C dX4_saysOff_60 [_, _, _, _, _] (Nat.le_of_ble_eq_true rfl) rfl rfl 62 rfl ?_
          refine g_iload_n C dX4_saysOff_62 rfl 63 rfl ?_
          refine g_iload_n C dX4_saysOff_63 rfl 64 rfl ?_
          refine g_callIR C (rn_S C (k_X4_tenthsOf l g p0 p1) (va_cwS 2 C.1.2.2.2.2 (gdS wl_442 wl_440 wl_441 wl_5) rfl rfl rfl hd_X4_tenthsOf.2 ⟨Nat.le_of_ble_eq_true rfl, Nat.le_of_ble_eq_true rfl⟩) [] rfl rfl rfl rfl (Nat.le_of_ble_eq_true rfl) ⟨Nat.zero_le _, Nat.zero_le _⟩ dX4_saysOff_64) 67 rfl ?_
          refine g_iload C dX4_saysOff_67 rfl 69 rfl ?_
          refine g_iadd C dX4_saysOff_69 70 rfl ?_
          refine g_callIR C (rn_S C (k_X4_held l g ((f_X4_tenthsOf p0 p1) + (-2))) (va_cwS 1 C.1.2.2.2.2 (gdS wl_445 wl_443 wl_444 wl_5) rfl rfl rfl hd_X4_held.2 ⟨Nat.le_of_ble_eq_true rfl, Nat.le_of_ble_eq_true rfl⟩) [] rfl rfl rfl rfl (Nat.le_of_ble_eq_true rfl) ⟨Nat.zero_le _, Nat.zero_le _⟩ dX4_saysOff_70) 73 rfl ?_
          obtain rfl := Option.some.inj hR
          exact g_iret C hr hlocks hA (by first | (dsimp only; done) | rfl) (by first | (dsimp only; done) | rfl) dX4_saysOff_73
    · refine g_iload_n C dX4_saysOff_22 rfl 23 rfl ?_
      refine g_iconst C dX4_saysOff_23 5 ic_5 24 rfl ?_
      refine g_icmp_ne C dX4_saysOff_24 hR 31 27 (by decide) rfl (fun c_24 hR => ?_) (fun c_24 hR => ?_)
      · refine g_iload_n C dX4_saysOff_31 rfl 32 rfl ?_
        refine g_iconst C dX4_saysOff_32 2 ic_2 33 rfl ?_
        refine g_icmp_eq C dX4_saysOff_33 hR 41 36 (by decide) rfl (fun c_33 hR => ?_) (fun c_33 hR => ?_)
        · refine g_iconst C dX4_saysOff_41 (-1) ic_m1 42 rfl ?_
          refine g_goto C dX4_saysOff_42 46 (by decide) ?_
          refine g_istore C dX4_saysOff_46 [_, _, _, _, _] (Nat.le_of_ble_eq_true rfl) rfl rfl 48 rfl ?_
          refine g_iload_n C dX4_saysOff_48 rfl 49 rfl ?_
          refine g_iconst C dX4_saysOff_49 3 ic_3 50 rfl ?_
          refine g_icmp_ne C dX4_saysOff_50 hR 62 53 (by decide) rfl (fun c_50 hR => ?_) (fun c_50 hR => ?_)
          · refine g_iload_n C dX4_saysOff_62 rfl 63 rfl ?_
            refine g_iload_n C dX4_saysOff_63 rfl 64 rfl ?_
            refine g_callIR C (rn_S C (k_X4_tenthsOf l g p0 p1) (va_cwS 2 C.1.2.2.2.2 (gdS wl_442 wl_440 wl_441 wl_5) rfl rfl rfl hd_X4_tenthsOf.2 ⟨Nat.le_of_ble_eq_true rfl, Nat.le_of_ble_eq_true rfl⟩) [] rfl rfl rfl rfl (Nat.le_of_ble_eq_true rfl) ⟨Nat.zero_le _, Nat.zero_le _⟩ dX4_saysOff_64) 67 rfl ?_
            refine g_iload C dX4_saysOff_67 rfl 69 rfl ?_
            refine g_iadd C dX4_saysOff_69 70 rfl ?_
            refine g_callIR C (rn_S C (k_X4_held l g ((f_X4_tenthsOf p0 p1) + (-1))) (va_cwS 1 C.1.2.2.2.2 (gdS wl_445 wl_443 wl_444 wl_5) rfl rfl rfl hd_X4_held.2 ⟨Nat.le_of_ble_eq_true rfl, Nat.le_of_ble_eq_true rfl⟩) [] rfl rfl rfl rfl (Nat.le_of_ble_eq_true rfl) ⟨Nat.zero_le _, Nat.zero_le _⟩ dX4_saysOff_70) 73 rfl ?_
            obtain rfl := Option.some.inj hR
            exact g_iret C hr hlocks hA (by first | (dsimp only; done) | rfl) (by first | (dsimp only; done) | rfl) dX4_saysOff_73
          · refine g_iload_n C dX4_saysOff_53 rfl 54 rfl ?_
            refine g_iconst C dX4_saysOff_54 3 ic_3 55 rfl ?_
            refine g_icmp_ne C dX4_saysOff_55 hR 62 58 (by decide) rfl (fun c_55 hR => ?_) (fun c_55 hR => ?_)
            · refine g_iload_n C dX4_saysOff_62 rfl 63 rfl ?_
              refine g_iload_n C dX4_saysOff_63 rfl 64 rfl ?_
              refine g_callIR C (rn_S C (k_X4_tenthsOf l g p0 p1) (va_cwS 2 C.1.2.2.2.2 (gdS wl_442 wl_440 wl_441 wl_5) rfl rfl rfl hd_X4_tenthsOf.2 ⟨Nat.le_of_ble_eq_true rfl, Nat.le_of_ble_eq_true rfl⟩) [] rfl rfl rfl rfl (Nat.le_of_ble_eq_true rfl) ⟨Nat.zero_le _, Nat.zero_le _⟩ dX4_saysOff_64) 67 rfl ?_
              refine g_iload C dX4_saysOff_67 rfl 69 rfl ?_
              refine g_iadd C dX4_saysOff_69 70 rfl ?_
              refine g_callIR C (rn_S C (k_X4_held l g ((f_X4_tenthsOf p0 p1) + (-1))) (va_cwS 1 C.1.2.2.2.2 (gdS wl_445 wl_443 wl_444 wl_5) rfl rfl rfl hd_X4_held.2 ⟨Nat.le_of_ble_eq_true rfl, Nat.le_of_ble_eq_true rfl⟩) [] rfl rfl rfl rfl (Nat.le_of_ble_eq_true rfl) ⟨Nat.zero_le _, Nat.zero_le _⟩ dX4_saysOff_70) 73 rfl ?_
              obtain rfl := Option.some.inj hR
              exact g_iret C hr hlocks hA (by first | (dsimp only; done) | rfl) (by first | (dsimp only; done) | rfl) dX4_saysOff_73
            · refine g_bipush C dX4_saysOff_58 (-2) bp_m2 60 rfl ?_
              refine g_istore C dX4_saysOff_60 [_, _, _, _, _] (Nat.le_of_ble_eq_true rfl) rfl rfl 62 rfl ?_
              refine g_iload_n C dX4_saysOff_62 rfl 63 rfl ?_
              refine g_iload_n C dX4_saysOff_63 rfl 64 rfl ?_
              refine g_callIR C (rn_S C (k_X4_tenthsOf l g p0 p1) (va_cwS 2 C.1.2.2.2.2 (gdS wl_442 wl_440 wl_441 wl_5) rfl rfl rfl hd_X4_tenthsOf.2 ⟨Nat.le_of_ble_eq_true rfl, Nat.le_of_ble_eq_true rfl⟩) [] rfl rfl rfl rfl (Nat.le_of_ble_eq_true rfl) ⟨Nat.zero_le _, Nat.zero_le _⟩ dX4_saysOff_64) 67 rfl ?_
              refine g_iload C dX4_saysOff_67 rfl 69 rfl ?_
              refine g_iadd C dX4_saysOff_69 70 rfl ?_
              refine g_callIR C (rn_S C (k_X4_held l g ((f_X4_tenthsOf p0 p1) + (-2))) (va_cwS 1 C.1.2.2.2.2 (gdS wl_445 wl_443 wl_444 wl_5) rfl rfl rfl hd_X4_held.2 ⟨Nat.le_of_ble_eq_true rfl, Nat.le_of_ble_eq_true rfl⟩) [] rfl rfl rfl rfl (Nat.le_of_ble_eq_true rfl) ⟨Nat.zero_le _, Nat.zero_le _⟩ dX4_saysOff_70) 73 rfl ?_
              obtain rfl := Option.some.inj hR
              exact g_iret C hr hlocks hA (by first | (dsimp only; done) | rfl) (by first | (dsimp only; done) | rfl) dX4_saysOff_73
        · refine g_iload_n C dX4_saysOff_36 rfl 37 rfl ?_
          refine g_iconst C dX4_saysOff_37 4 ic_4 38 rfl ?_
          refine g_icmp_ne C dX4_saysOff_38 hR 45 41 (by decide) rfl (fun c_38 hR => ?_) (fun c_38 hR => ?_)
          · refine g_iconst C dX4_saysOff_45 0 ic_0 46 rfl ?_
            refine g_istore C dX4_saysOff_46 [_, _, _, _, _] (Nat.le_of_ble_eq_true rfl) rfl rfl 48 rfl ?_
            refine g_iload_n C dX4_saysOff_48 rfl 49 rfl ?_
            refine g_iconst C dX4_saysOff_49 3 ic_3 50 rfl ?_
            refine g_icmp_ne C dX4_saysOff_50 hR 62 53 (by decide) rfl (fun c_50 hR => ?_) (fun c_50 hR => ?_)
            · refine g_iload_n C dX4_saysOff_62 rfl 63 rfl ?_
              refine g_iload_n C dX4_saysOff_63 rfl 64 rfl ?_
              refine g_callIR C (rn_S C (k_X4_tenthsOf l g p0 p1) (va_cwS 2 C.1.2.2.2.2 (gdS wl_442 wl_440 wl_441 wl_5) rfl rfl rfl hd_X4_tenthsOf.2 ⟨Nat.le_of_ble_eq_true rfl, Nat.le_of_ble_eq_true rfl⟩) [] rfl rfl rfl rfl (Nat.le_of_ble_eq_true rfl) ⟨Nat.zero_le _, Nat.zero_le _⟩ dX4_saysOff_64) 67 rfl ?_
              refine g_iload C dX4_saysOff_67 rfl 69 rfl ?_
              refine g_iadd C dX4_saysOff_69 70 rfl ?_
              refine g_callIR C (rn_S C (k_X4_held l g ((f_X4_tenthsOf p0 p1) + 0)) (va_cwS 1 C.1.2.2.2.2 (gdS wl_445 wl_443 wl_444 wl_5) rfl rfl rfl hd_X4_held.2 ⟨Nat.le_of_ble_eq_true rfl, Nat.le_of_ble_eq_true rfl⟩) [] rfl rfl rfl rfl (Nat.le_of_ble_eq_true rfl) ⟨Nat.zero_le _, Nat.zero_le _⟩ dX4_saysOff_70) 73 rfl ?_
              obtain rfl := Option.some.inj hR
              exact g_iret C hr hlocks hA (by first | (dsimp only; done) | rfl) (by first | (dsimp only; done) | rfl) dX4_saysOff_73
            · refine g_iload_n C dX4_saysOff_53 rfl 54 rfl ?_
              refine g_iconst C dX4_saysOff_54 3 ic_3 55 rfl ?_
              refine g_icmp_ne C dX4_saysOff_55 hR 62 58 (by decide) rfl (fun c_55 hR => ?_) (fun c_55 hR => ?_)
              · refine g_iload_n C dX4_saysOff_62 rfl 63 rfl ?_
                refine g_iload_n C dX4_saysOff_63 rfl 64 rfl ?_
                refine g_callIR C (rn_S C (k_X4_tenthsOf l g p0 p1) (va_cwS 2 C.1.2.2.2.2 (gdS wl_442 wl_440 wl_441 wl_5) rfl rfl rfl hd_X4_tenthsOf.2 ⟨Nat.le_of_ble_eq_true rfl, Nat.le_of_ble_eq_true rfl⟩) [] rfl rfl rfl rfl (Nat.le_of_ble_eq_true rfl) ⟨Nat.zero_le _, Nat.zero_le _⟩ dX4_saysOff_64) 67 rfl ?_
                refine g_iload C dX4_saysOff_67 rfl 69 rfl ?_
                refine g_iadd C dX4_saysOff_69 70 rfl ?_
                refine g_callIR C (rn_S C (k_X4_held l g ((f_X4_tenthsOf p0 p1) + 0)) (va_cwS 1 C.1.2.2.2.2 (gdS wl_445 wl_443 wl_444 wl_5) rfl rfl rfl hd_X4_held.2 ⟨Nat.le_of_ble_eq_true rfl, Nat.le_of_ble_eq_true rfl⟩) [] rfl rfl rfl rfl (Nat.le_of_ble_eq_true rfl) ⟨Nat.zero_le _, Nat.zero_le _⟩ dX4_saysOff_70) 73 rfl ?_
                obtain rfl := Option.some.inj hR
                exact g_iret C hr hlocks hA (by first | (dsimp only; done) | rfl) (by first | (dsimp only; done) | rfl) dX4_saysOff_73
              · refine g_bipush C dX4_saysOff_58 (-2) bp_m2 60 rfl ?_
                refine g_istore C dX4_saysOff_60 [_, _, _, _, _] (Nat.le_of_ble_eq_true rfl) rfl rfl 62 rfl ?_
                refine g_iload_n C dX4_saysOff_62 rfl 63 rfl ?_
                refine g_iload_n C dX4_saysOff_63 rfl 64 rfl ?_
                refine g_callIR C (rn_S C (k_X4_tenthsOf l g p0 p1) (va_cwS 2 C.1.2.2.2.2 (gdS wl_442 wl_440 wl_441 wl_5) rfl rfl rfl hd_X4_tenthsOf.2 ⟨Nat.le_of_ble_eq_true rfl, Nat.le_of_ble_eq_true rfl⟩) [] rfl rfl rfl rfl (Nat.le_of_ble_eq_true rfl) ⟨Nat.zero_le _, Nat.zero_le _⟩ dX4_saysOff_64) 67 rfl ?_
                refine g_iload C dX4_saysOff_67 rfl 69 rfl ?_
                refine g_iadd C dX4_saysOff_69 70 rfl ?_
                refine g_callIR C (rn_S C (k_X4_held l g ((f_X4_tenthsOf p0 p1) + (-2))) (va_cwS 1 C.1.2.2.2.2 (gdS wl_445 wl_443 wl_444 wl_5) rfl rfl rfl hd_X4_held.2 ⟨Nat.le_of_ble_eq_true rfl, Nat.le_of_ble_eq_true rfl⟩) [] rfl rfl rfl rfl (Nat.le_of_ble_eq_true rfl) ⟨Nat.zero_le _, Nat.zero_le _⟩ dX4_saysOff_70) 73 rfl ?_
                obtain rfl := Option.some.inj hR
                exact g_iret C hr hlocks hA (by first | (dsimp only; done) | rfl) (by first | (dsimp only; done) | rfl) dX4_saysOff_73
          · refine g_iconst C dX4_saysOff_41 (-1) ic_m1 42 rfl ?_
            refine g_goto C dX4_saysOff_42 46 (by decide) ?_
            refine g_istore C dX4_saysOff_46 [_, _, _, _, _] (Nat.le_of_ble_eq_true rfl) rfl rfl 48 rfl ?_
            refine g_iload_n C dX4_saysOff_48 rfl 49 rfl ?_
            refine g_iconst C dX4_saysOff_49 3 ic_3 50 rfl ?_
            refine g_icmp_ne C dX4_saysOff_50 hR 62 53 (by decide) rfl (fun c_50 hR => ?_) (fun c_50 hR => ?_)
            · refine g_iload_n C dX4_saysOff_62 rfl 63 rfl ?_
              refine g_iload_n C dX4_saysOff_63 rfl 64 rfl ?_
              refine g_callIR C (rn_S C (k_X4_tenthsOf l g p0 p1) (va_cwS 2 C.1.2.2.2.2 (gdS wl_442 wl_440 wl_441 wl_5) rfl rfl rfl hd_X4_tenthsOf.2 ⟨Nat.le_of_ble_eq_true rfl, Nat.le_of_ble_eq_true rfl⟩) [] rfl rfl rfl rfl (Nat.le_of_ble_eq_true rfl) ⟨Nat.zero_le _, Nat.zero_le _⟩ dX4_saysOff_64) 67 rfl ?_
              refine g_iload C dX4_saysOff_67 rfl 69 rfl ?_
              refine g_iadd C dX4_saysOff_69 70 rfl ?_
              refine g_callIR C (rn_S C (k_X4_held l g ((f_X4_tenthsOf p0 p1) + (-1))) (va_cwS 1 C.1.2.2.2.2 (gdS wl_445 wl_443 wl_444 wl_5) rfl rfl rfl hd_X4_held.2 ⟨Nat.le_of_ble_eq_true rfl, Nat.le_of_ble_eq_true rfl⟩) [] rfl rfl rfl rfl (Nat.le_of_ble_eq_true rfl) ⟨Nat.zero_le _, Nat.zero_le _⟩ dX4_saysOff_70) 73 rfl ?_
              obtain rfl := Option.some.inj hR
              exact g_iret C hr hlocks hA (by first | (dsimp only; done) | rfl) (by first | (dsimp only; done) | rfl) dX4_saysOff_73
            · refine g_iload_n C dX4_saysOff_53 rfl 54 rfl ?_
              refine g_iconst C dX4_saysOff_54 3 ic_3 55 rfl ?_
              refine g_icmp_ne C dX4_saysOff_55 hR 62 58 (by decide) rfl (fun c_55 hR => ?_) (fun c_55 hR => ?_)
              · refine g_iload_n C dX4_saysOff_62 rfl 63 rfl ?_
                refine g_iload_n C dX4_saysOff_63 rfl 64 rfl ?_
                refine g_callIR C (rn_S C (k_X4_tenthsOf l g p0 p1) (va_cwS 2 C.1.2.2.2.2 (gdS wl_442 wl_440 wl_441 wl_5) rfl rfl rfl hd_X4_tenthsOf.2 ⟨Nat.le_of_ble_eq_true rfl, Nat.le_of_ble_eq_true rfl⟩) [] rfl rfl rfl rfl (Nat.le_of_ble_eq_true rfl) ⟨Nat.zero_le _, Nat.zero_le _⟩ dX4_saysOff_64) 67 rfl ?_
                refine g_iload C dX4_saysOff_67 rfl 69 rfl ?_
                refine g_iadd C dX4_saysOff_69 70 rfl ?_
                refine g_callIR C (rn_S C (k_X4_held l g ((f_X4_tenthsOf p0 p1) + (-1))) (va_cwS 1 C.1.2.2.2.2 (gdS wl_445 wl_443 wl_444 wl_5) rfl rfl rfl hd_X4_held.2 ⟨Nat.le_of_ble_eq_true rfl, Nat.le_of_ble_eq_true rfl⟩) [] rfl rfl rfl rfl (Nat.le_of_ble_eq_true rfl) ⟨Nat.zero_le _, Nat.zero_le _⟩ dX4_saysOff_70) 73 rfl ?_
                obtain rfl := Option.some.inj hR
                exact g_iret C hr hlocks hA (by first | (dsimp only; done) | rfl) (by first | (dsimp only; done) | rfl) dX4_saysOff_73
              · refine g_bipush C dX4_saysOff_58 (-2) bp_m2 60 rfl ?_
                refine g_istore C dX4_saysOff_60 [_, _, _, _, _] (Nat.le_of_ble_eq_true rfl) rfl rfl 62 rfl ?_
                refine g_iload_n C dX4_saysOff_62 rfl 63 rfl ?_
                refine g_iload_n C dX4_saysOff_63 rfl 64 rfl ?_
                refine g_callIR C (rn_S C (k_X4_tenthsOf l g p0 p1) (va_cwS 2 C.1.2.2.2.2 (gdS wl_442 wl_440 wl_441 wl_5) rfl rfl rfl hd_X4_tenthsOf.2 ⟨Nat.le_of_ble_eq_true rfl, Nat.le_of_ble_eq_true rfl⟩) [] rfl rfl rfl rfl (Nat.le_of_ble_eq_true rfl) ⟨Nat.zero_le _, Nat.zero_le _⟩ dX4_saysOff_64) 67 rfl ?_
                refine g_iload C dX4_saysOff_67 rfl 69 rfl ?_
                refine g_iadd C dX4_saysOff_69 70 rfl ?_
                refine g_callIR C (rn_S C (k_X4_held l g ((f_X4_tenthsOf p0 p1) + (-2))) (va_cwS 1 C.1.2.2.2.2 (gdS wl_445 wl_443 wl_444 wl_5) rfl rfl rfl hd_X4_held.2 ⟨Nat.le_of_ble_eq_true rfl, Nat.le_of_ble_eq_true rfl⟩) [] rfl rfl rfl rfl (Nat.le_of_ble_eq_true rfl) ⟨Nat.zero_le _, Nat.zero_le _⟩ dX4_saysOff_70) 73 rfl ?_
                obtain rfl := Option.some.inj hR
                exact g_iret C hr hlocks hA (by first | (dsimp only; done) | rfl) (by first | (dsimp only; done) | rfl) dX4_saysOff_73
      · refine g_iconst C dX4_saysOff_27 1 ic_1 28 rfl ?_
        refine g_goto C dX4_saysOff_28 46 (by decide) ?_
        refine g_istore C dX4_saysOff_46 [_, _, _, _, _] (Nat.le_of_ble_eq_true rfl) rfl rfl 48 rfl ?_
        refine g_iload_n C dX4_saysOff_48 rfl 49 rfl ?_
        refine g_iconst C dX4_saysOff_49 3 ic_3 50 rfl ?_
        refine g_icmp_ne C dX4_saysOff_50 hR 62 53 (by decide) rfl (fun c_50 hR => ?_) (fun c_50 hR => ?_)
        · refine g_iload_n C dX4_saysOff_62 rfl 63 rfl ?_
          refine g_iload_n C dX4_saysOff_63 rfl 64 rfl ?_
          refine g_callIR C (rn_S C (k_X4_tenthsOf l g p0 p1) (va_cwS 2 C.1.2.2.2.2 (gdS wl_442 wl_440 wl_441 wl_5) rfl rfl rfl hd_X4_tenthsOf.2 ⟨Nat.le_of_ble_eq_true rfl, Nat.le_of_ble_eq_true rfl⟩) [] rfl rfl rfl rfl (Nat.le_of_ble_eq_true rfl) ⟨Nat.zero_le _, Nat.zero_le _⟩ dX4_saysOff_64) 67 rfl ?_
          refine g_iload C dX4_saysOff_67 rfl 69 rfl ?_
          refine g_iadd C dX4_saysOff_69 70 rfl ?_
          refine g_callIR C (rn_S C (k_X4_held l g ((f_X4_tenthsOf p0 p1) + 1)) (va_cwS 1 C.1.2.2.2.2 (gdS wl_445 wl_443 wl_444 wl_5) rfl rfl rfl hd_X4_held.2 ⟨Nat.le_of_ble_eq_true rfl, Nat.le_of_ble_eq_true rfl⟩) [] rfl rfl rfl rfl (Nat.le_of_ble_eq_true rfl) ⟨Nat.zero_le _, Nat.zero_le _⟩ dX4_saysOff_70) 73 rfl ?_
          obtain rfl := Option.some.inj hR
          exact g_iret C hr hlocks hA (by first | (dsimp only; done) | rfl) (by first | (dsimp only; done) | rfl) dX4_saysOff_73
        · refine g_iload_n C dX4_saysOff_53 rfl 54 rfl ?_
          refine g_iconst C dX4_saysOff_54 3 ic_3 55 rfl ?_
          refine g_icmp_ne C dX4_saysOff_55 hR 62 58 (by decide) rfl (fun c_55 hR => ?_) (fun c_55 hR => ?_)
          · refine g_iload_n C dX4_saysOff_62 rfl 63 rfl ?_
            refine g_iload_n C dX4_saysOff_63 rfl 64 rfl ?_
            refine g_callIR C (rn_S C (k_X4_tenthsOf l g p0 p1) (va_cwS 2 C.1.2.2.2.2 (gdS wl_442 wl_440 wl_441 wl_5) rfl rfl rfl hd_X4_tenthsOf.2 ⟨Nat.le_of_ble_eq_true rfl, Nat.le_of_ble_eq_true rfl⟩) [] rfl rfl rfl rfl (Nat.le_of_ble_eq_true rfl) ⟨Nat.zero_le _, Nat.zero_le _⟩ dX4_saysOff_64) 67 rfl ?_
            refine g_iload C dX4_saysOff_67 rfl 69 rfl ?_
            refine g_iadd C dX4_saysOff_69 70 rfl ?_
            refine g_callIR C (rn_S C (k_X4_held l g ((f_X4_tenthsOf p0 p1) + 1)) (va_cwS 1 C.1.2.2.2.2 (gdS wl_445 wl_443 wl_444 wl_5) rfl rfl rfl hd_X4_held.2 ⟨Nat.le_of_ble_eq_true rfl, Nat.le_of_ble_eq_true rfl⟩) [] rfl rfl rfl rfl (Nat.le_of_ble_eq_true rfl) ⟨Nat.zero_le _, Nat.zero_le _⟩ dX4_saysOff_70) 73 rfl ?_
            obtain rfl := Option.some.inj hR
            exact g_iret C hr hlocks hA (by first | (dsimp only; done) | rfl) (by first | (dsimp only; done) | rfl) dX4_saysOff_73
          · refine g_bipush C dX4_saysOff_58 (-2) bp_m2 60 rfl ?_
            refine g_istore C dX4_saysOff_60 [_, _, _, _, _] (Nat.le_of_ble_eq_true rfl) rfl rfl 62 rfl ?_
            refine g_iload_n C dX4_saysOff_62 rfl 63 rfl ?_
            refine g_iload_n C dX4_saysOff_63 rfl 64 rfl ?_
            refine g_callIR C (rn_S C (k_X4_tenthsOf l g p0 p1) (va_cwS 2 C.1.2.2.2.2 (gdS wl_442 wl_440 wl_441 wl_5) rfl rfl rfl hd_X4_tenthsOf.2 ⟨Nat.le_of_ble_eq_true rfl, Nat.le_of_ble_eq_true rfl⟩) [] rfl rfl rfl rfl (Nat.le_of_ble_eq_true rfl) ⟨Nat.zero_le _, Nat.zero_le _⟩ dX4_saysOff_64) 67 rfl ?_
            refine g_iload C dX4_saysOff_67 rfl 69 rfl ?_
            refine g_iadd C dX4_saysOff_69 70 rfl ?_
            refine g_callIR C (rn_S C (k_X4_held l g ((f_X4_tenthsOf p0 p1) + (-2))) (va_cwS 1 C.1.2.2.2.2 (gdS wl_445 wl_443 wl_444 wl_5) rfl rfl rfl hd_X4_held.2 ⟨Nat.le_of_ble_eq_true rfl, Nat.le_of_ble_eq_true rfl⟩) [] rfl rfl rfl rfl (Nat.le_of_ble_eq_true rfl) ⟨Nat.zero_le _, Nat.zero_le _⟩ dX4_saysOff_70) 73 rfl ?_
            obtain rfl := Option.some.inj hR
            exact g_iret C hr hlocks hA (by first | (dsimp only; done) | rfl) (by first | (dsimp only; done) | rfl) dX4_saysOff_73
theorem hd_X4_weightAt : yX4_weightAt.cls = RX4 ∧ yX4_weightAt.cls ≠ "java/lang/invoke/MethodHandle" ∧ yX4_weightAt.cls ≠ "java/lang/invoke/VarHandle" ∧ (parseMethodDescriptor yX4_weightAt.desc).map (fun d => d.parameters.length) = some 3 := by decide +kernel
def f_X4_weightAt (S : (Nat → Nat → Int32) × (Nat → Nat → Int64)) (p0 : Int32) (p1 : Int32) (p2 : Int32) (N_ : Nat) : Option (Int32) :=
  if 0 ≤ (p2 - (f_X4_stageAt p1)) then
    if 0 ≤ (6 - (2 * (p2 - (f_X4_stageAt p1)))) then
      if p0 < 0 ∨ 5 ≤ (Int32.toNatClampNeg p0) then none else
      if ((S.1 2) (Int32.toNatClampNeg p0)) = 3 then
        some ((6 - (2 * (p2 - (f_X4_stageAt p1)))) + 1)
      else
        some ((6 - (2 * (p2 - (f_X4_stageAt p1)))) + 0)
    else
      if p0 < 0 ∨ 5 ≤ (Int32.toNatClampNeg p0) then none else
      if ((S.1 2) (Int32.toNatClampNeg p0)) = 3 then
        some ((0 : Int32) + 1)
      else
        some ((0 : Int32) + 0)
  else
    if 0 ≤ (6 - (2 * (-(p2 - (f_X4_stageAt p1))))) then
      if p0 < 0 ∨ 5 ≤ (Int32.toNatClampNeg p0) then none else
      if ((S.1 2) (Int32.toNatClampNeg p0)) = 3 then
        some ((6 - (2 * (-(p2 - (f_X4_stageAt p1))))) + 1)
      else
        some ((6 - (2 * (-(p2 - (f_X4_stageAt p1))))) + 0)
    else
      if p0 < 0 ∨ 5 ≤ (Int32.toNatClampNeg p0) then none else
      if ((S.1 2) (Int32.toNatClampNeg p0)) = 3 then
        some ((0 : Int32) + 1)
      else
        some ((0 : Int32) + 0)
set_option maxRecDepth 100000 in
set_option maxHeartbeats 4000000 in
theorem k_X4_weightAt (l : Launch) (g : gE) (b : Nat → Nat) (S : (Nat → Nat → Int32) × (Nat → Nat → Int64)) (p0 : Int32) (p1 : Int32) (p2 : Int32) (N_ : Nat) (R_ : Int32) (hR : f_X4_weightAt S p0 p1 p2 N_ = some R_) : FnI l g yX4_weightAt wA_X4_weightAt { frames := 1, cells := 0, slots := 0, locals := 20 } [.ref (b 0), .int p0, .int p1, .int p2] (wM g b S) R_ (wM g b S) := by
  refine fEntry (As := [.ref (b 0), .int p0, .int p1, .int p2]) (maxL := 6) (ret := (some .int)) (by decide) rfl [some (.ref (b 0)), some (.int p0), some (.int p1), some (.int p2), none, none] (Nat.le_of_ble_eq_true rfl) (lvInB.to (lvInB.sm (lvInB.sm (lvInB.sm (lvInB.sm (lvInB.nn (lvInB.nn lvInB.nil))))))) ?_
  intro p e s m below meth c A C hr hlocks hname hA
  have C : Cx p s m _ c g A cX4_weightAt 6 wA_X4_weightAt RX4 := C
  rw [f_X4_weightAt] at hR
  refine g_iload_n C dX4_weightAt_0 rfl 1 rfl ?_
  refine g_iload_n C dX4_weightAt_1 rfl 2 rfl ?_
  refine g_callIR C (rn_S C (k_X4_stageAt l g p1) (va_cwS 1 C.1.2.2.2.2 (gdS wl_314 wl_312 wl_313 wl_5) rfl rfl rfl hd_X4_stageAt.2 ⟨Nat.le_of_ble_eq_true rfl, Nat.le_of_ble_eq_true rfl⟩) [] rfl rfl rfl rfl (Nat.le_of_ble_eq_true rfl) ⟨Nat.zero_le _, Nat.zero_le _⟩ dX4_weightAt_2) 5 rfl ?_
  refine g_isub C dX4_weightAt_5 6 rfl ?_
  refine g_istore C dX4_weightAt_6 [_, _, _, _, _, _] (Nat.le_of_ble_eq_true rfl) rfl rfl 8 rfl ?_
  refine g_bipush C dX4_weightAt_8 6 bp_6 10 rfl ?_
  refine g_iconst C dX4_weightAt_10 2 ic_2 11 rfl ?_
  refine g_iload C dX4_weightAt_11 rfl 13 rfl ?_
  refine g_if_ge C dX4_weightAt_13 hR 22 16 (by decide) rfl (fun c_13 hR => ?_) (fun c_13 hR => ?_)
  · refine g_iload C dX4_weightAt_22 rfl 24 rfl ?_
    refine g_imul C dX4_weightAt_24 25 rfl ?_
    refine g_isub C dX4_weightAt_25 26 rfl ?_
    refine g_istore C dX4_weightAt_26 [_, _, _, _, _, _] (Nat.le_of_ble_eq_true rfl) rfl rfl 28 rfl ?_
    refine g_iload C dX4_weightAt_28 rfl 30 rfl ?_
    refine g_if_ge C dX4_weightAt_30 hR 37 33 (by decide) rfl (fun c_30 hR => ?_) (fun c_30 hR => ?_)
    · refine g_iload C dX4_weightAt_37 rfl 39 rfl ?_
      refine g_aload_n C dX4_weightAt_39 rfl 40 rfl ?_
      refine g_get (v := .ref (b 2)) C (hiC hiA_4) 0 rfl rfl 1 (by decide) (List.mem_cons_of_mem _ wl_67) rfl rfl dX4_weightAt_40 43 rfl ?_
      refine g_iload_n C dX4_weightAt_43 rfl 44 rfl ?_
      obtain ⟨h_44, hR⟩ := opt_n hR
      refine g_iald (f := (S.1 2)) C 2 rfl h_44 dX4_weightAt_44 45 rfl ?_
      refine g_iconst C dX4_weightAt_45 3 ic_3 46 rfl ?_
      refine g_icmp_ne C dX4_weightAt_46 hR 53 49 (by decide) rfl (fun c_46 hR => ?_) (fun c_46 hR => ?_)
      · refine g_iconst C dX4_weightAt_53 0 ic_0 54 rfl ?_
        refine g_iadd C dX4_weightAt_54 55 rfl ?_
        obtain rfl := Option.some.inj hR
        exact g_iret C hr hlocks hA (by first | (dsimp only; done) | rfl) (by first | (dsimp only; done) | rfl) dX4_weightAt_55
      · refine g_iconst C dX4_weightAt_49 1 ic_1 50 rfl ?_
        refine g_goto C dX4_weightAt_50 54 (by decide) ?_
        refine g_iadd C dX4_weightAt_54 55 rfl ?_
        obtain rfl := Option.some.inj hR
        exact g_iret C hr hlocks hA (by first | (dsimp only; done) | rfl) (by first | (dsimp only; done) | rfl) dX4_weightAt_55
    · refine g_iconst C dX4_weightAt_33 0 ic_0 34 rfl ?_
      refine g_goto C dX4_weightAt_34 39 (by decide) ?_
      refine g_aload_n C dX4_weightAt_39 rfl 40 rfl ?_
      refine g_get (v := .ref (b 2)) C (hiC hiA_4) 0 rfl rfl 1 (by decide) (List.mem_cons_of_mem _ wl_67) rfl rfl dX4_weightAt_40 43 rfl ?_
      refine g_iload_n C dX4_weightAt_43 rfl 44 rfl ?_
      obtain ⟨h_44, hR⟩ := opt_n hR
      refine g_iald (f := (S.1 2)) C 2 rfl h_44 dX4_weightAt_44 45 rfl ?_
      refine g_iconst C dX4_weightAt_45 3 ic_3 46 rfl ?_
      refine g_icmp_ne C dX4_weightAt_46 hR 53 49 (by decide) rfl (fun c_46 hR => ?_) (fun c_46 hR => ?_)
      · refine g_iconst C dX4_weightAt_53 0 ic_0 54 rfl ?_
        refine g_iadd C dX4_weightAt_54 55 rfl ?_
        obtain rfl := Option.some.inj hR
        exact g_iret C hr hlocks hA (by first | (dsimp only; done) | rfl) (by first | (dsimp only; done) | rfl) dX4_weightAt_55
      · refine g_iconst C dX4_weightAt_49 1 ic_1 50 rfl ?_
        refine g_goto C dX4_weightAt_50 54 (by decide) ?_
        refine g_iadd C dX4_weightAt_54 55 rfl ?_
        obtain rfl := Option.some.inj hR
        exact g_iret C hr hlocks hA (by first | (dsimp only; done) | rfl) (by first | (dsimp only; done) | rfl) dX4_weightAt_55
  · refine g_iload C dX4_weightAt_16 rfl 18 rfl ?_
    refine g_ineg C dX4_weightAt_18 19 rfl ?_
    refine g_goto C dX4_weightAt_19 24 (by decide) ?_
    refine g_imul C dX4_weightAt_24 25 rfl ?_
    refine g_isub C dX4_weightAt_25 26 rfl ?_
    refine g_istore C dX4_weightAt_26 [_, _, _, _, _, _] (Nat.le_of_ble_eq_true rfl) rfl rfl 28 rfl ?_
    refine g_iload C dX4_weightAt_28 rfl 30 rfl ?_
    refine g_if_ge C dX4_weightAt_30 hR 37 33 (by decide) rfl (fun c_30 hR => ?_) (fun c_30 hR => ?_)
    · refine g_iload C dX4_weightAt_37 rfl 39 rfl ?_
      refine g_aload_n C dX4_weightAt_39 rfl 40 rfl ?_
      refine g_get (v := .ref (b 2)) C (hiC hiA_4) 0 rfl rfl 1 (by decide) (List.mem_cons_of_mem _ wl_67) rfl rfl dX4_weightAt_40 43 rfl ?_
      refine g_iload_n C dX4_weightAt_43 rfl 44 rfl ?_
      obtain ⟨h_44, hR⟩ := opt_n hR
      refine g_iald (f := (S.1 2)) C 2 rfl h_44 dX4_weightAt_44 45 rfl ?_
      refine g_iconst C dX4_weightAt_45 3 ic_3 46 rfl ?_
      refine g_icmp_ne C dX4_weightAt_46 hR 53 49 (by decide) rfl (fun c_46 hR => ?_) (fun c_46 hR => ?_)
      · refine g_iconst C dX4_weightAt_53 0 ic_0 54 rfl ?_
        refine g_iadd C dX4_weightAt_54 55 rfl ?_
        obtain rfl := Option.some.inj hR
        exact g_iret C hr hlocks hA (by first | (dsimp only; done) | rfl) (by first | (dsimp only; done) | rfl) dX4_weightAt_55
      · refine g_iconst C dX4_weightAt_49 1 ic_1 50 rfl ?_
        refine g_goto C dX4_weightAt_50 54 (by decide) ?_
        refine g_iadd C dX4_weightAt_54 55 rfl ?_
        obtain rfl := Option.some.inj hR
        exact g_iret C hr hlocks hA (by first | (dsimp only; done) | rfl) (by first | (dsimp only; done) | rfl) dX4_weightAt_55
    · refine g_iconst C dX4_weightAt_33 0 ic_0 34 rfl ?_
      refine g_goto C dX4_weightAt_34 39 (by decide) ?_
      refine g_aload_n C dX4_weightAt_39 rfl 40 rfl ?_
      refine g_get (v := .ref (b 2)) C (hiC hiA_4) 0 rfl rfl 1 (by decide) (List.mem_cons_of_mem _ wl_67) rfl rfl dX4_weightAt_40 43 rfl ?_
      refine g_iload_n C dX4_weightAt_43 rfl 44 rfl ?_
      obtain ⟨h_44, hR⟩ := opt_n hR
      refine g_iald (f := (S.1 2)) C 2 rfl h_44 dX4_weightAt_44 45 rfl ?_
      refine g_iconst C dX4_weightAt_45 3 ic_3 46 rfl ?_
      refine g_icmp_ne C dX4_weightAt_46 hR 53 49 (by decide) rfl (fun c_46 hR => ?_) (fun c_46 hR => ?_)
      · refine g_iconst C dX4_weightAt_53 0 ic_0 54 rfl ?_
        refine g_iadd C dX4_weightAt_54 55 rfl ?_
        obtain rfl := Option.some.inj hR
        exact g_iret C hr hlocks hA (by first | (dsimp only; done) | rfl) (by first | (dsimp only; done) | rfl) dX4_weightAt_55
      · refine g_iconst C dX4_weightAt_49 1 ic_1 50 rfl ?_
        refine g_goto C dX4_weightAt_50 54 (by decide) ?_
        refine g_iadd C dX4_weightAt_54 55 rfl ?_
        obtain rfl := Option.some.inj hR
        exact g_iret C hr hlocks hA (by first | (dsimp only; done) | rfl) (by first | (dsimp only; done) | rfl) dX4_weightAt_55
theorem hd_X4_worthOf : yX4_worthOf.cls = RX4 ∧ yX4_worthOf.cls ≠ "java/lang/invoke/MethodHandle" ∧ yX4_worthOf.cls ≠ "java/lang/invoke/VarHandle" ∧ (parseMethodDescriptor yX4_worthOf.desc).map (fun d => d.parameters.length) = some 2 := by decide +kernel
def f_X4_worthOf (S : (Nat → Nat → Int32) × (Nat → Nat → Int64)) (p0 : Int32) (p1 : Int32) : Int32 :=
  if p0 = 0 then
    if 2 ≤ p1 then
      if p1 = 2 then
        6
      else
        if p1 = 3 then
          3
        else
          0
    else
      9
  else
    if p0 = 1 then
      if 3 ≤ p1 then
        if p1 = 3 then
          2
        else
          (-3)
      else
        7
    else
      if p0 = 2 then
        if 4 ≤ p1 then
          0
        else
          5
      else
        if p0 = 3 then
          if 4 ≤ p1 then
            (-4)
          else
            2
        else
          (-(S.1 0 4))
set_option maxRecDepth 100000 in
set_option maxHeartbeats 4000000 in
theorem k_X4_worthOf (l : Launch) (g : gE) (b : Nat → Nat) (S : (Nat → Nat → Int32) × (Nat → Nat → Int64)) (p0 : Int32) (p1 : Int32) : FnI l g yX4_worthOf wA_X4_worthOf { frames := 0, cells := 0, slots := 0, locals := 0 } [.ref (b 0), .int p0, .int p1] (wM g b S) (f_X4_worthOf S p0 p1) (wM g b S) := by
  generalize hR : f_X4_worthOf S p0 p1 = R_
  refine fEntry (As := [.ref (b 0), .int p0, .int p1]) (maxL := 3) (ret := (some .int)) (by decide) rfl [some (.ref (b 0)), some (.int p0), some (.int p1)] (Nat.le_of_ble_eq_true rfl) (lvInB.to (lvInB.sm (lvInB.sm (lvInB.sm lvInB.nil)))) ?_
  intro p e s m below meth c A C hr hlocks hname hA
  have C : Cx p s m _ c g A cX4_worthOf 3 wA_X4_worthOf RX4 := C
  rw [f_X4_worthOf] at hR
  refine g_iload_n C dX4_worthOf_0 rfl 1 rfl ?_
  rcases Decidable.em (p0 = 0) with c_1_0 | c_1_0
  · have hR := (if_pos c_1_0).symm.trans hR
    refine g_tableIn C dX4_worthOf_1 0 c_1_0 (31) 32 (by decide) ?_
    refine g_iload_n C dX4_worthOf_32 rfl 33 rfl ?_
    refine g_iconst C dX4_worthOf_33 2 ic_2 34 rfl ?_
    refine g_icmp_ge C dX4_worthOf_34 hR 42 37 (by decide) rfl (fun c_34 hR => ?_) (fun c_34 hR => ?_)
    · refine g_iload_n C dX4_worthOf_42 rfl 43 rfl ?_
      refine g_iconst C dX4_worthOf_43 2 ic_2 44 rfl ?_
      refine g_icmp_ne C dX4_worthOf_44 hR 52 47 (by decide) rfl (fun c_44 hR => ?_) (fun c_44 hR => ?_)
      · refine g_iload_n C dX4_worthOf_52 rfl 53 rfl ?_
        refine g_iconst C dX4_worthOf_53 3 ic_3 54 rfl ?_
        refine g_icmp_ne C dX4_worthOf_54 hR 61 57 (by decide) rfl (fun c_54 hR => ?_) (fun c_54 hR => ?_)
        · refine g_iconst C dX4_worthOf_61 0 ic_0 62 rfl ?_
          subst hR
          exact g_iret C hr hlocks hA (by first | (dsimp only; done) | rfl) (by first | (dsimp only; done) | rfl) dX4_worthOf_62
        · refine g_iconst C dX4_worthOf_57 3 ic_3 58 rfl ?_
          refine g_goto C dX4_worthOf_58 62 (by decide) ?_
          subst hR
          exact g_iret C hr hlocks hA (by first | (dsimp only; done) | rfl) (by first | (dsimp only; done) | rfl) dX4_worthOf_62
      · refine g_bipush C dX4_worthOf_47 6 bp_6 49 rfl ?_
        refine g_goto C dX4_worthOf_49 62 (by decide) ?_
        subst hR
        exact g_iret C hr hlocks hA (by first | (dsimp only; done) | rfl) (by first | (dsimp only; done) | rfl) dX4_worthOf_62
    · refine g_bipush C dX4_worthOf_37 9 bp_9 39 rfl ?_
      refine g_goto C dX4_worthOf_39 62 (by decide) ?_
      subst hR
      exact g_iret C hr hlocks hA (by first | (dsimp only; done) | rfl) (by first | (dsimp only; done) | rfl) dX4_worthOf_62
  · have hR := (if_neg c_1_0).symm.trans hR
    rcases Decidable.em (p0 = 1) with c_1_1 | c_1_1
    · have hR := (if_pos c_1_1).symm.trans hR
      refine g_tableIn C dX4_worthOf_1 1 c_1_1 (62) 63 (by decide) ?_
      refine g_iload_n C dX4_worthOf_63 rfl 64 rfl ?_
      refine g_iconst C dX4_worthOf_64 3 ic_3 65 rfl ?_
      refine g_icmp_ge C dX4_worthOf_65 hR 73 68 (by decide) rfl (fun c_65 hR => ?_) (fun c_65 hR => ?_)
      · refine g_iload_n C dX4_worthOf_73 rfl 74 rfl ?_
        refine g_iconst C dX4_worthOf_74 3 ic_3 75 rfl ?_
        refine g_icmp_ne C dX4_worthOf_75 hR 82 78 (by decide) rfl (fun c_75 hR => ?_) (fun c_75 hR => ?_)
        · refine g_bipush C dX4_worthOf_82 (-3) bp_m3 84 rfl ?_
          subst hR
          exact g_iret C hr hlocks hA (by first | (dsimp only; done) | rfl) (by first | (dsimp only; done) | rfl) dX4_worthOf_84
        · refine g_iconst C dX4_worthOf_78 2 ic_2 79 rfl ?_
          refine g_goto C dX4_worthOf_79 84 (by decide) ?_
          subst hR
          exact g_iret C hr hlocks hA (by first | (dsimp only; done) | rfl) (by first | (dsimp only; done) | rfl) dX4_worthOf_84
      · refine g_bipush C dX4_worthOf_68 7 bp_7 70 rfl ?_
        refine g_goto C dX4_worthOf_70 84 (by decide) ?_
        subst hR
        exact g_iret C hr hlocks hA (by first | (dsimp only; done) | rfl) (by first | (dsimp only; done) | rfl) dX4_worthOf_84
    · have hR := (if_neg c_1_1).symm.trans hR
      rcases Decidable.em (p0 = 2) with c_1_2 | c_1_2
      · have hR := (if_pos c_1_2).symm.trans hR
        refine g_tableIn C dX4_worthOf_1 2 c_1_2 (84) 85 (by decide) ?_
        refine g_iload_n C dX4_worthOf_85 rfl 86 rfl ?_
        refine g_iconst C dX4_worthOf_86 4 ic_4 87 rfl ?_
        refine g_icmp_ge C dX4_worthOf_87 hR 94 90 (by decide) rfl (fun c_87 hR => ?_) (fun c_87 hR => ?_)
        · refine g_iconst C dX4_worthOf_94 0 ic_0 95 rfl ?_
          subst hR
          exact g_iret C hr hlocks hA (by first | (dsimp only; done) | rfl) (by first | (dsimp only; done) | rfl) dX4_worthOf_95
        · refine g_iconst C dX4_worthOf_90 5 ic_5 91 rfl ?_
          refine g_goto C dX4_worthOf_91 95 (by decide) ?_
          subst hR
          exact g_iret C hr hlocks hA (by first | (dsimp only; done) | rfl) (by first | (dsimp only; done) | rfl) dX4_worthOf_95
      · have hR := (if_neg c_1_2).symm.trans hR
        rcases Decidable.em (p0 = 3) with c_1_3 | c_1_3
        · have hR := (if_pos c_1_3).symm.trans hR
          refine g_tableIn C dX4_worthOf_1 3 c_1_3 (95) 96 (by decide) ?_
          refine g_iload_n C dX4_worthOf_96 rfl 97 rfl ?_
          refine g_iconst C dX4_worthOf_97 4 ic_4 98 rfl ?_
          refine g_icmp_ge C dX4_worthOf_98 hR 105 101 (by decide) rfl (fun c_98 hR => ?_) (fun c_98 hR => ?_)
          · refine g_bipush C dX4_worthOf_105 (-4) bp_m4 107 rfl ?_
            subst hR
            exact g_iret C hr hlocks hA (by first | (dsimp only; done) | rfl) (by first | (dsimp only; done) | rfl) dX4_worthOf_107
          · refine g_iconst C dX4_worthOf_101 2 ic_2 102 rfl ?_
            refine g_goto C dX4_worthOf_102 107 (by decide) ?_
            subst hR
            exact g_iret C hr hlocks hA (by first | (dsimp only; done) | rfl) (by first | (dsimp only; done) | rfl) dX4_worthOf_107
        · have hR := (if_neg c_1_3).symm.trans hR
          refine g_tableD C dX4_worthOf_1 [0, 1, 2, 3] (ne_c c_1_0 (ne_c c_1_1 (ne_c c_1_2 (ne_c c_1_3 ne_n)))) (by decide +kernel) (by decide +kernel) 108 (by decide) ?_
          refine g_aload_n C dX4_worthOf_108 rfl 109 rfl ?_
          refine g_get (v := .int (S.1 0 4)) C (hiC hiA_4) 0 rfl rfl 13 (by decide) (List.mem_cons_of_mem _ wl_85) rfl rfl dX4_worthOf_109 112 rfl ?_
          refine g_ineg C dX4_worthOf_112 113 rfl ?_
          subst hR
          exact g_iret C hr hlocks hA (by first | (dsimp only; done) | rfl) (by first | (dsimp only; done) | rfl) dX4_worthOf_113
theorem hd_X4_netOf : yX4_netOf.cls = RX4 ∧ yX4_netOf.cls ≠ "java/lang/invoke/MethodHandle" ∧ yX4_netOf.cls ≠ "java/lang/invoke/VarHandle" ∧ (parseMethodDescriptor yX4_netOf.desc).map (fun d => d.parameters.length) = some 3 := by decide +kernel
def f_X4_netOf (S : (Nat → Nat → Int32) × (Nat → Nat → Int64)) (p0 : Int32) (p1 : Int32) (p2 : Int32) : Int32 :=
  ((f_X4_worthOf S p0 p2) - ((f_X4_harmOf p0 p2) * (f_X4_timesFor p1)))
set_option maxRecDepth 100000 in
set_option maxHeartbeats 4000000 in
theorem k_X4_netOf (l : Launch) (g : gE) (b : Nat → Nat) (S : (Nat → Nat → Int32) × (Nat → Nat → Int64)) (p0 : Int32) (p1 : Int32) (p2 : Int32) : FnI l g yX4_netOf wA_X4_netOf { frames := 1, cells := 0, slots := 0, locals := 22 } [.ref (b 0), .int p0, .int p1, .int p2] (wM g b S) (f_X4_netOf S p0 p1 p2) (wM g b S) := by
  generalize hR : f_X4_netOf S p0 p1 p2 = R_
  refine fEntry (As := [.ref (b 0), .int p0, .int p1, .int p2]) (maxL := 4) (ret := (some .int)) (by decide) rfl [some (.ref (b 0)), some (.int p0), some (.int p1), some (.int p2)] (Nat.le_of_ble_eq_true rfl) (lvInB.to (lvInB.sm (lvInB.sm (lvInB.sm (lvInB.sm lvInB.nil))))) ?_
  intro p e s m below meth c A C hr hlocks hname hA
  have C : Cx p s m _ c g A cX4_netOf 4 wA_X4_netOf RX4 := C
  rw [f_X4_netOf] at hR
  refine g_aload_n C dX4_netOf_0 rfl 1 rfl ?_
  refine g_iload_n C dX4_netOf_1 rfl 2 rfl ?_
  refine g_iload_n C dX4_netOf_2 rfl 3 rfl ?_
  refine g_callIR C (rn_V C (k_X4_worthOf l g b S p0 p2) (cwV 2 C.1.2.2.2.2 (gdV wl_536 wl_533 wl_534 wl_535 wl_5) rfl rfl rfl hd_X4_worthOf ⟨Nat.le_of_ble_eq_true rfl, Nat.le_of_ble_eq_true rfl⟩) 0 rfl rfl _ rg_C rg_n rfl rfl (Nat.le_of_ble_eq_true rfl) ⟨Nat.zero_le _, Nat.zero_le _⟩ dX4_netOf_3) 6 rfl ?_
  refine g_iload_n C dX4_netOf_6 rfl 7 rfl ?_
  refine g_iload_n C dX4_netOf_7 rfl 8 rfl ?_
  refine g_callIR C (rn_S C (k_X4_harmOf l g p0 p2) (va_cwS 2 C.1.2.2.2.2 (gdS wl_539 wl_537 wl_538 wl_5) rfl rfl rfl hd_X4_harmOf.2 ⟨Nat.le_of_ble_eq_true rfl, Nat.le_of_ble_eq_true rfl⟩) [] rfl rfl rfl rfl (Nat.le_of_ble_eq_true rfl) ⟨Nat.zero_le _, Nat.zero_le _⟩ dX4_netOf_8) 11 rfl ?_
  refine g_iload_n C dX4_netOf_11 rfl 12 rfl ?_
  refine g_callIR C (rn_S C (k_X4_timesFor l g p1) (va_cwS 1 C.1.2.2.2.2 (gdS wl_542 wl_540 wl_541 wl_5) rfl rfl rfl hd_X4_timesFor.2 ⟨Nat.le_of_ble_eq_true rfl, Nat.le_of_ble_eq_true rfl⟩) [] rfl rfl rfl rfl (Nat.le_of_ble_eq_true rfl) ⟨Nat.zero_le _, Nat.zero_le _⟩ dX4_netOf_12) 15 rfl ?_
  refine g_imul C dX4_netOf_15 16 rfl ?_
  refine g_isub C dX4_netOf_16 17 rfl ?_
  subst hR
  exact g_iret C hr hlocks hA (by first | (dsimp only; done) | rfl) (by first | (dsimp only; done) | rfl) dX4_netOf_17
theorem hd_X4_findThought : yX4_findThought.cls = RX4 ∧ yX4_findThought.cls ≠ "java/lang/invoke/MethodHandle" ∧ yX4_findThought.cls ≠ "java/lang/invoke/VarHandle" ∧ (parseMethodDescriptor yX4_findThought.desc).map (fun d => d.parameters.length) = some 0 := by decide +kernel
def f_X4_findThought_L34 (x1 : Int32) (N_ : Nat) : Nat → Int32 → ((Nat → Nat → Int32) × (Nat → Nat → Int64)) → Option (Int32 × ((Nat → Nat → Int32) × (Nat → Nat → Int64)))
  | 0, _, _ => none
  | n_ + 1, x2, S =>
    if (S.1 0 2) ≤ x2 then
      some (x2, S)
    else
      if x2 < 0 ∨ 8 ≤ (Int32.toNatClampNeg x2) then none else
      (f_X4_saysOff S ((S.1 7) (Int32.toNatClampNeg x2)) x1 N_).bind fun v4 =>
      if x1 < 0 ∨ 5 ≤ (Int32.toNatClampNeg x1) then none else
      if x2 < 0 ∨ 8 ≤ (Int32.toNatClampNeg x2) then none else
      if ((S.1 8) (Int32.toNatClampNeg x2)) = 1 then
        if x1 < 0 ∨ 5 ≤ (Int32.toNatClampNeg x1) then none else
        f_X4_findThought_L34 x1 N_ n_ (x2 + 1) (S.1, (kLS S.2 0 (vp_updL (S.2 0) (Int32.toNatClampNeg x1) (((S.2 0) (Int32.toNatClampNeg x1)) * (Int32.toInt64 v4)))))
      else
        if x1 < 0 ∨ 5 ≤ (Int32.toNatClampNeg x1) then none else
        f_X4_findThought_L34 x1 N_ n_ (x2 + 1) (S.1, (kLS S.2 0 (vp_updL (S.2 0) (Int32.toNatClampNeg x1) (((S.2 0) (Int32.toNatClampNeg x1)) * (Int32.toInt64 (10 - v4))))))
set_option maxRecDepth 100000 in
set_option maxHeartbeats 4000000 in
theorem k_X4_findThought_L34 (l : Launch) (g : gE) {p : Program} {e : Env} {s : State} {m : MethodId} {args : Array Value} {below : List Frame} {meth : Method} {c : Code} {Q : State → Prop} {A : Nat → Prop} {b : Nat → Nat}  (C : Cx p s m args c g A cX4_findThought 4 wA_X4_findThought RX4) (N_ : Nat) (x1 : Int32) : ∀ (n_ : Nat) (x2 : Int32) (S : (Nat → Nat → Int32) × (Nat → Nat → Int64)) (rv_ : Int32 × ((Nat → Nat → Int32) × (Nat → Nat → Int64))), f_X4_findThought_L34 x1 N_ n_ x2 S = some rv_ → (Gm p l e (headSpec wA_X4_findThought ({ frames := 2, cells := 0, slots := 0, locals := 45 } : Room)).room s m args below meth c Q g A 4 0 0 (wM g b rv_.2) [some (.ref (b 0)), some (.int x1), some (.int rv_.1), none] [] 89) → Gm p l e (headSpec wA_X4_findThought ({ frames := 2, cells := 0, slots := 0, locals := 45 } : Room)).room s m args below meth c Q g A 4 0 0 (wM g b S) [some (.ref (b 0)), some (.int x1), some (.int x2), none] [] 34 := by
  intro n_
  induction n_ with
  | zero =>
    intro x2 S rv_ hR
    simp [f_X4_findThought_L34] at hR
  | succ n_ ih =>
    intro x2 S rv_ hR hk
    rw [f_X4_findThought_L34] at hR
    refine g_iload_n C dX4_findThought_34 rfl 35 rfl ?_
    refine g_aload_n C dX4_findThought_35 rfl 36 rfl ?_
    refine g_get (v := .int (S.1 0 2)) C (hiC hiA_4) 0 rfl rfl 11 (by decide) (List.mem_cons_of_mem _ wl_241) rfl rfl dX4_findThought_36 39 rfl ?_
    refine g_icmp_ge C dX4_findThought_39 hR 89 42 (by decide) rfl (fun c_39 hR => ?_) (fun c_39 hR => ?_)
    · obtain rfl := Option.some.inj hR
      refine g_lv [some (.ref (b 0)), some (.int x1), some (.int x2), none] (lvLe.sm (lvLe.sm (lvLe.sm (lvLe.nn lvLe.nil)))) ?_
      exact hk
    · refine g_aload_n C dX4_findThought_42 rfl 43 rfl ?_
      refine g_aload_n C dX4_findThought_43 rfl 44 rfl ?_
      refine g_get (v := .ref (b 7)) C (hiC hiA_4) 0 rfl rfl 6 (by decide) (List.mem_cons_of_mem _ wl_72) rfl rfl dX4_findThought_44 47 rfl ?_
      refine g_iload_n C dX4_findThought_47 rfl 48 rfl ?_
      obtain ⟨h_48, hR⟩ := opt_n hR
      refine g_iald (f := (S.1 7)) C 7 rfl h_48 dX4_findThought_48 49 rfl ?_
      refine g_iload_n C dX4_findThought_49 rfl 50 rfl ?_
      obtain ⟨v4, hv4, hR⟩ := opt_b hR
      refine g_callIR C (rn_V C (k_X4_saysOff l g b S ((S.1 7) (Int32.toNatClampNeg x2)) x1 N_ v4 hv4) (cwV 2 C.1.2.2.2.2 (gdV wl_439 wl_436 wl_437 wl_438 wl_5) rfl rfl rfl hd_X4_saysOff ⟨Nat.le_of_ble_eq_true rfl, Nat.le_of_ble_eq_true rfl⟩) 0 rfl rfl _ rg_C rg_n rfl rfl (Nat.le_of_ble_eq_true rfl) ⟨Nat.zero_le _, Nat.zero_le _⟩ dX4_findThought_50) 53 rfl ?_
      refine g_istore_n C dX4_findThought_53 [_, _, _, _] (Nat.le_of_ble_eq_true rfl) rfl rfl 54 rfl ?_
      refine g_aload_n C dX4_findThought_54 rfl 55 rfl ?_
      refine g_get (v := .ref (b 17)) C (hiC hiA_4) 0 rfl rfl 25 (by decide) (List.mem_cons_of_mem _ wl_80) rfl rfl dX4_findThought_55 58 rfl ?_
      refine g_iload_n C dX4_findThought_58 rfl 59 rfl ?_
      refine g_dup2 C dX4_findThought_59 rfl rfl 60 rfl ?_
      obtain ⟨h_60, hR⟩ := opt_n hR
      refine g_lald (f := (S.2 0)) C 17 rfl h_60 dX4_findThought_60 61 rfl ?_
      refine g_aload_n C dX4_findThought_61 rfl 62 rfl ?_
      refine g_get (v := .ref (b 8)) C (hiC hiA_4) 0 rfl rfl 7 (by decide) (List.mem_cons_of_mem _ wl_73) rfl rfl dX4_findThought_62 65 rfl ?_
      refine g_iload_n C dX4_findThought_65 rfl 66 rfl ?_
      obtain ⟨h_66, hR⟩ := opt_n hR
      refine g_iald (f := (S.1 8)) C 8 rfl h_66 dX4_findThought_66 67 rfl ?_
      refine g_iconst C dX4_findThought_67 1 ic_1 68 rfl ?_
      refine g_icmp_ne C dX4_findThought_68 hR 76 71 (by decide) rfl (fun c_68 hR => ?_) (fun c_68 hR => ?_)
      · refine g_bipush C dX4_findThought_76 10 bp_10 78 rfl ?_
        refine g_iload_n C dX4_findThought_78 rfl 79 rfl ?_
        refine g_isub C dX4_findThought_79 80 rfl ?_
        refine g_i2l C dX4_findThought_80 81 rfl ?_
        refine g_lmul C dX4_findThought_81 82 rfl ?_
        obtain ⟨h_82, hR⟩ := opt_n hR
        refine g_last (f := (S.2 0)) C 17 rfl h_82 dX4_findThought_82 (wMr g b (S.1 0 0) (S.1 0 1) (S.1 0 2) (S.1 0 3) (S.1 0 4) (S.1 0 5) (S.1 0 6) (S.1 0 7) (S.1 0 8) (S.1 0 9) (S.1 0 10) (S.1 0 11) (S.1 0 12) (S.1 0 13) (S.1 0 14) (S.1 1) (S.1 2) (S.1 3) (S.1 4) (S.1 5) (S.1 6) (S.1 7) (S.1 8) (S.1 9) (S.1 10) (S.1 11) (S.1 12) (S.1 13) (S.1 14) (S.1 15) (S.1 16) (vp_updL (S.2 0) (Int32.toNatClampNeg x1) (((S.2 0) (Int32.toNatClampNeg x1)) * (Int32.toInt64 (10 - v4)))) (S.2 1) (S.2 2)) rfl 83 rfl ?_
        refine g_iinc C dX4_findThought_83 rfl 1 ic_1 [_, _, _, _] (Nat.le_of_ble_eq_true rfl) rfl rfl 86 rfl ?_
        refine g_goto C dX4_findThought_86 34 (by decide) ?_
        refine g_lv [some (.ref (b 0)), some (.int x1), some (.int (x2 + 1)), none] (lvLe.sm (lvLe.sm (lvLe.sm (lvLe.nn lvLe.nil)))) ?_
        exact ih _ _ rv_ hR hk
      · refine g_iload_n C dX4_findThought_71 rfl 72 rfl ?_
        refine g_i2l C dX4_findThought_72 73 rfl ?_
        refine g_goto C dX4_findThought_73 81 (by decide) ?_
        refine g_lmul C dX4_findThought_81 82 rfl ?_
        obtain ⟨h_82, hR⟩ := opt_n hR
        refine g_last (f := (S.2 0)) C 17 rfl h_82 dX4_findThought_82 (wMr g b (S.1 0 0) (S.1 0 1) (S.1 0 2) (S.1 0 3) (S.1 0 4) (S.1 0 5) (S.1 0 6) (S.1 0 7) (S.1 0 8) (S.1 0 9) (S.1 0 10) (S.1 0 11) (S.1 0 12) (S.1 0 13) (S.1 0 14) (S.1 1) (S.1 2) (S.1 3) (S.1 4) (S.1 5) (S.1 6) (S.1 7) (S.1 8) (S.1 9) (S.1 10) (S.1 11) (S.1 12) (S.1 13) (S.1 14) (S.1 15) (S.1 16) (vp_updL (S.2 0) (Int32.toNatClampNeg x1) (((S.2 0) (Int32.toNatClampNeg x1)) * (Int32.toInt64 v4))) (S.2 1) (S.2 2)) rfl 83 rfl ?_
        refine g_iinc C dX4_findThought_83 rfl 1 ic_1 [_, _, _, _] (Nat.le_of_ble_eq_true rfl) rfl rfl 86 rfl ?_
        refine g_goto C dX4_findThought_86 34 (by decide) ?_
        refine g_lv [some (.ref (b 0)), some (.int x1), some (.int (x2 + 1)), none] (lvLe.sm (lvLe.sm (lvLe.sm (lvLe.nn lvLe.nil)))) ?_
        exact ih _ _ rv_ hR hk
def f_X4_findThought_L2  (N_ : Nat) : Nat → Int32 → ((Nat → Nat → Int32) × (Nat → Nat → Int64)) → Option (Int32 × ((Nat → Nat → Int32) × (Nat → Nat → Int64)))
  | 0, _, _ => none
  | n_ + 1, x1, S =>
    if 5 ≤ x1 then
      some (x1, S)
    else
      if (S.1 0 1) < 0 ∨ 5 ≤ (Int32.toNatClampNeg (S.1 0 1)) then none else
      (f_X4_weightAt S (S.1 0 1) ((S.1 5) (Int32.toNatClampNeg (S.1 0 1))) x1 N_).bind fun v8 =>
      if x1 < 0 ∨ 5 ≤ (Int32.toNatClampNeg x1) then none else
      (f_X4_findThought_L34 x1 N_ N_ 0 (S.1, (kLS S.2 0 (vp_updL (S.2 0) (Int32.toNatClampNeg x1) (Int32.toInt64 v8))))).bind fun v9 =>
      f_X4_findThought_L2 N_ n_ (x1 + 1) v9.2
set_option maxRecDepth 100000 in
set_option maxHeartbeats 4000000 in
theorem k_X4_findThought_L2 (l : Launch) (g : gE) {p : Program} {e : Env} {s : State} {m : MethodId} {args : Array Value} {below : List Frame} {meth : Method} {c : Code} {Q : State → Prop} {A : Nat → Prop} {b : Nat → Nat}  (C : Cx p s m args c g A cX4_findThought 4 wA_X4_findThought RX4) (N_ : Nat)  : ∀ (n_ : Nat) (x1 : Int32) (S : (Nat → Nat → Int32) × (Nat → Nat → Int64)) (rv_ : Int32 × ((Nat → Nat → Int32) × (Nat → Nat → Int64))), f_X4_findThought_L2 N_ n_ x1 S = some rv_ → (Gm p l e (headSpec wA_X4_findThought ({ frames := 2, cells := 0, slots := 0, locals := 45 } : Room)).room s m args below meth c Q g A 4 0 0 (wM g b rv_.2) [some (.ref (b 0)), some (.int rv_.1), none, none] [] 95) → Gm p l e (headSpec wA_X4_findThought ({ frames := 2, cells := 0, slots := 0, locals := 45 } : Room)).room s m args below meth c Q g A 4 0 0 (wM g b S) [some (.ref (b 0)), some (.int x1), none, none] [] 2 := by
  intro n_
  induction n_ with
  | zero =>
    intro x1 S rv_ hR
    simp [f_X4_findThought_L2] at hR
  | succ n_ ih =>
    intro x1 S rv_ hR hk
    rw [f_X4_findThought_L2] at hR
    refine g_iload_n C dX4_findThought_2 rfl 3 rfl ?_
    refine g_iconst C dX4_findThought_3 5 ic_5 4 rfl ?_
    refine g_icmp_ge C dX4_findThought_4 hR 95 7 (by decide) rfl (fun c_4 hR => ?_) (fun c_4 hR => ?_)
    · obtain rfl := Option.some.inj hR
      refine g_lv [some (.ref (b 0)), some (.int x1), none, none] (lvLe.sm (lvLe.sm (lvLe.nn (lvLe.nn lvLe.nil)))) ?_
      exact hk
    · refine g_aload_n C dX4_findThought_7 rfl 8 rfl ?_
      refine g_get (v := .ref (b 17)) C (hiC hiA_4) 0 rfl rfl 25 (by decide) (List.mem_cons_of_mem _ wl_80) rfl rfl dX4_findThought_8 11 rfl ?_
      refine g_iload_n C dX4_findThought_11 rfl 12 rfl ?_
      refine g_aload_n C dX4_findThought_12 rfl 13 rfl ?_
      refine g_aload_n C dX4_findThought_13 rfl 14 rfl ?_
      refine g_get (v := .int (S.1 0 1)) C (hiC hiA_4) 0 rfl rfl 10 (by decide) (List.mem_cons_of_mem _ wl_240) rfl rfl dX4_findThought_14 17 rfl ?_
      refine g_aload_n C dX4_findThought_17 rfl 18 rfl ?_
      refine g_get (v := .ref (b 5)) C (hiC hiA_4) 0 rfl rfl 4 (by decide) (List.mem_cons_of_mem _ wl_70) rfl rfl dX4_findThought_18 21 rfl ?_
      refine g_aload_n C dX4_findThought_21 rfl 22 rfl ?_
      refine g_get (v := .int (S.1 0 1)) C (hiC hiA_4) 0 rfl rfl 10 (by decide) (List.mem_cons_of_mem _ wl_240) rfl rfl dX4_findThought_22 25 rfl ?_
      obtain ⟨h_25, hR⟩ := opt_n hR
      refine g_iald (f := (S.1 5)) C 5 rfl h_25 dX4_findThought_25 26 rfl ?_
      refine g_iload_n C dX4_findThought_26 rfl 27 rfl ?_
      obtain ⟨v8, hv8, hR⟩ := opt_b hR
      refine g_callIR C (rn_V C (k_X4_weightAt l g b S (S.1 0 1) ((S.1 5) (Int32.toNatClampNeg (S.1 0 1))) x1 N_ v8 hv8) (cwV 3 C.1.2.2.2.2 (gdV wl_471 wl_468 wl_469 wl_470 wl_5) rfl rfl rfl hd_X4_weightAt ⟨Nat.le_of_ble_eq_true rfl, Nat.le_of_ble_eq_true rfl⟩) 0 rfl rfl _ rg_C rg_n rfl rfl (Nat.le_of_ble_eq_true rfl) ⟨Nat.zero_le _, Nat.zero_le _⟩ dX4_findThought_27) 30 rfl ?_
      refine g_i2l C dX4_findThought_30 31 rfl ?_
      obtain ⟨h_31, hR⟩ := opt_n hR
      refine g_last (f := (S.2 0)) C 17 rfl h_31 dX4_findThought_31 (wMr g b (S.1 0 0) (S.1 0 1) (S.1 0 2) (S.1 0 3) (S.1 0 4) (S.1 0 5) (S.1 0 6) (S.1 0 7) (S.1 0 8) (S.1 0 9) (S.1 0 10) (S.1 0 11) (S.1 0 12) (S.1 0 13) (S.1 0 14) (S.1 1) (S.1 2) (S.1 3) (S.1 4) (S.1 5) (S.1 6) (S.1 7) (S.1 8) (S.1 9) (S.1 10) (S.1 11) (S.1 12) (S.1 13) (S.1 14) (S.1 15) (S.1 16) (vp_updL (S.2 0) (Int32.toNatClampNeg x1) (Int32.toInt64 v8)) (S.2 1) (S.2 2)) rfl 32 rfl ?_
      refine g_iconst C dX4_findThought_32 0 ic_0 33 rfl ?_
      refine g_istore_n C dX4_findThought_33 [_, _, _, _] (Nat.le_of_ble_eq_true rfl) rfl rfl 34 rfl ?_
      refine g_lv [some (.ref (b 0)), some (.int x1), some (.int 0), none] (lvLe.sm (lvLe.sm (lvLe.sm (lvLe.nn lvLe.nil)))) ?_
      obtain ⟨v9, hv9, hR⟩ := opt_b hR
      refine k_X4_findThought_L34 l g C N_ x1 N_ 0 (S.1, (kLS S.2 0 (vp_updL (S.2 0) (Int32.toNatClampNeg x1) (Int32.toInt64 v8)))) _ hv9 ?_
      refine g_iinc C dX4_findThought_89 rfl 1 ic_1 [_, _, _, _] (Nat.le_of_ble_eq_true rfl) rfl rfl 92 rfl ?_
      refine g_goto C dX4_findThought_92 2 (by decide) ?_
      refine g_lv [some (.ref (b 0)), some (.int (x1 + 1)), none, none] (lvLe.sm (lvLe.sm (lvLe.nn (lvLe.nn lvLe.nil)))) ?_
      exact ih _ _ rv_ hR hk
def f_X4_findThought (S : (Nat → Nat → Int32) × (Nat → Nat → Int64)) (N_ : Nat) : Option (((Nat → Nat → Int32) × (Nat → Nat → Int64))) :=
  (f_X4_findThought_L2 N_ N_ 0 S).bind fun v10 =>
  some v10.2
set_option maxRecDepth 100000 in
set_option maxHeartbeats 4000000 in
theorem k_X4_findThought (l : Launch) (g : gE) (b : Nat → Nat) (S : (Nat → Nat → Int32) × (Nat → Nat → Int64)) (N_ : Nat) (R_ : ((Nat → Nat → Int32) × (Nat → Nat → Int64))) (hR : f_X4_findThought S N_ = some R_) : FnV l g yX4_findThought wA_X4_findThought { frames := 2, cells := 0, slots := 0, locals := 45 } [.ref (b 0)] (wM g b S)  (wM g b R_) := by
  refine fEntry (As := [.ref (b 0)]) (maxL := 4) (ret := none) (by decide) rfl [some (.ref (b 0)), none, none, none] (Nat.le_of_ble_eq_true rfl) (lvInB.to (lvInB.sm (lvInB.nn (lvInB.nn (lvInB.nn lvInB.nil))))) ?_
  intro p e s m below meth c A C hr hlocks hname hA
  have C : Cx p s m _ c g A cX4_findThought 4 wA_X4_findThought RX4 := C
  rw [f_X4_findThought] at hR
  refine g_iconst C dX4_findThought_0 0 ic_0 1 rfl ?_
  refine g_istore_n C dX4_findThought_1 [_, _, _, _] (Nat.le_of_ble_eq_true rfl) rfl rfl 2 rfl ?_
  refine g_lv [some (.ref (b 0)), some (.int 0), none, none] (lvLe.sm (lvLe.sm (lvLe.nn (lvLe.nn lvLe.nil)))) ?_
  obtain ⟨v10, hv10, hR⟩ := opt_b hR
  refine k_X4_findThought_L2 l g C N_  N_ 0 S _ hv10 ?_
  obtain rfl := Option.some.inj hR
  exact g_vret C hr hlocks hA (by first | (dsimp only; done) | rfl) dX4_findThought_95
theorem hd_X4_allThought : yX4_allThought.cls = RX4 ∧ yX4_allThought.cls ≠ "java/lang/invoke/MethodHandle" ∧ yX4_allThought.cls ≠ "java/lang/invoke/VarHandle" ∧ (parseMethodDescriptor yX4_allThought.desc).map (fun d => d.parameters.length) = some 0 := by decide +kernel
def f_X4_allThought_L4 (S : (Nat → Nat → Int32) × (Nat → Nat → Int64)) (N_ : Nat) : Nat → Int64 → Int32 → Option (Int64 × Int32)
  | 0, _, _ => none
  | n_ + 1, x1, x3 =>
    if 5 ≤ x3 then
      some (x1, x3)
    else
      if x3 < 0 ∨ 5 ≤ (Int32.toNatClampNeg x3) then none else
      f_X4_allThought_L4 S N_ n_ (x1 + ((S.2 0) (Int32.toNatClampNeg x3))) (x3 + 1)
set_option maxRecDepth 100000 in
set_option maxHeartbeats 4000000 in
theorem k_X4_allThought_L4 (l : Launch) (g : gE) {p : Program} {e : Env} {s : State} {m : MethodId} {args : Array Value} {below : List Frame} {meth : Method} {c : Code} {Q : State → Prop} {A : Nat → Prop} {b : Nat → Nat}  (C : Cx p s m args c g A cX4_allThought 4 wA_X4_allThought RX4) (N_ : Nat) (S : (Nat → Nat → Int32) × (Nat → Nat → Int64)) : ∀ (n_ : Nat) (x1 : Int64) (x3 : Int32) (rv_ : Int64 × Int32), f_X4_allThought_L4 S N_ n_ x1 x3 = some rv_ → (Gm p l e (headSpec wA_X4_allThought ({ frames := 0, cells := 0, slots := 0, locals := 0 } : Room)).room s m args below meth c Q g A 4 0 0 (wM g b S) [some (.ref (b 0)), some (.long rv_.1), none, some (.int rv_.2)] [] 24) → Gm p l e (headSpec wA_X4_allThought ({ frames := 0, cells := 0, slots := 0, locals := 0 } : Room)).room s m args below meth c Q g A 4 0 0 (wM g b S) [some (.ref (b 0)), some (.long x1), none, some (.int x3)] [] 4 := by
  intro n_
  induction n_ with
  | zero =>
    intro x1 x3 rv_ hR
    simp [f_X4_allThought_L4] at hR
  | succ n_ ih =>
    intro x1 x3 rv_ hR hk
    rw [f_X4_allThought_L4] at hR
    refine g_iload_n C dX4_allThought_4 rfl 5 rfl ?_
    refine g_iconst C dX4_allThought_5 5 ic_5 6 rfl ?_
    refine g_icmp_ge C dX4_allThought_6 hR 24 9 (by decide) rfl (fun c_6 hR => ?_) (fun c_6 hR => ?_)
    · obtain rfl := Option.some.inj hR
      refine g_lv [some (.ref (b 0)), some (.long x1), none, some (.int x3)] (lvLe.sm (lvLe.sm (lvLe.nn (lvLe.sm lvLe.nil)))) ?_
      exact hk
    · refine g_lload_n C dX4_allThought_9 rfl 10 rfl ?_
      refine g_aload_n C dX4_allThought_10 rfl 11 rfl ?_
      refine g_get (v := .ref (b 17)) C (hiC hiA_4) 0 rfl rfl 25 (by decide) (List.mem_cons_of_mem _ wl_80) rfl rfl dX4_allThought_11 14 rfl ?_
      refine g_iload_n C dX4_allThought_14 rfl 15 rfl ?_
      obtain ⟨h_15, hR⟩ := opt_n hR
      refine g_lald (f := (S.2 0)) C 17 rfl h_15 dX4_allThought_15 16 rfl ?_
      refine g_ladd C dX4_allThought_16 17 rfl ?_
      refine g_lstore_n C dX4_allThought_17 [_, _, _, _] (Nat.le_of_ble_eq_true rfl) rfl rfl 18 rfl ?_
      refine g_iinc C dX4_allThought_18 rfl 1 ic_1 [_, _, _, _] (Nat.le_of_ble_eq_true rfl) rfl rfl 21 rfl ?_
      refine g_goto C dX4_allThought_21 4 (by decide) ?_
      refine g_lv [some (.ref (b 0)), some (.long (x1 + ((S.2 0) (Int32.toNatClampNeg x3)))), none, some (.int (x3 + 1))] (lvLe.sm (lvLe.sm (lvLe.nn (lvLe.sm lvLe.nil)))) ?_
      exact ih _ _ rv_ hR hk
def f_X4_allThought (S : (Nat → Nat → Int32) × (Nat → Nat → Int64)) (N_ : Nat) : Option (Int64) :=
  (f_X4_allThought_L4 S N_ N_ 0 0).bind fun v1 =>
  some v1.1
set_option maxRecDepth 100000 in
set_option maxHeartbeats 4000000 in
theorem k_X4_allThought (l : Launch) (g : gE) (b : Nat → Nat) (S : (Nat → Nat → Int32) × (Nat → Nat → Int64)) (N_ : Nat) (R_ : Int64) (hR : f_X4_allThought S N_ = some R_) : FnL l g yX4_allThought wA_X4_allThought { frames := 0, cells := 0, slots := 0, locals := 0 } [.ref (b 0)] (wM g b S) R_ (wM g b S) := by
  refine fEntry (As := [.ref (b 0)]) (maxL := 4) (ret := (some .long)) (by decide) rfl [some (.ref (b 0)), none, none, none] (Nat.le_of_ble_eq_true rfl) (lvInB.to (lvInB.sm (lvInB.nn (lvInB.nn (lvInB.nn lvInB.nil))))) ?_
  intro p e s m below meth c A C hr hlocks hname hA
  have C : Cx p s m _ c g A cX4_allThought 4 wA_X4_allThought RX4 := C
  rw [f_X4_allThought] at hR
  refine g_lconst C dX4_allThought_0 0 (by decide) 1 rfl ?_
  refine g_lstore_n C dX4_allThought_1 [_, _, _, _] (Nat.le_of_ble_eq_true rfl) rfl rfl 2 rfl ?_
  refine g_iconst C dX4_allThought_2 0 ic_0 3 rfl ?_
  refine g_istore_n C dX4_allThought_3 [_, _, _, _] (Nat.le_of_ble_eq_true rfl) rfl rfl 4 rfl ?_
  refine g_lv [some (.ref (b 0)), some (.long 0), none, some (.int 0)] (lvLe.sm (lvLe.sm (lvLe.nn (lvLe.sm lvLe.nil)))) ?_
  obtain ⟨v1, hv1, hR⟩ := opt_b hR
  refine k_X4_allThought_L4 l g C N_ S N_ 0 0 _ hv1 ?_
  refine g_lload_n C dX4_allThought_24 rfl 25 rfl ?_
  obtain rfl := Option.some.inj hR
  exact g_lret C hr hlocks hA (by first | (dsimp only; done) | rfl) (by first | (dsimp only; done) | rfl) dX4_allThought_25
theorem hd_X4_netBy : yX4_netBy.cls = RX4 ∧ yX4_netBy.cls ≠ "java/lang/invoke/MethodHandle" ∧ yX4_netBy.cls ≠ "java/lang/invoke/VarHandle" ∧ (parseMethodDescriptor yX4_netBy.desc).map (fun d => d.parameters.length) = some 3 := by decide +kernel
def f_X4_netBy_0_L6 (x2 : Int32) (x3 : Int32) (S : (Nat → Nat → Int32) × (Nat → Nat → Int64)) (N_ : Nat) : Nat → Int64 → Int32 → Option (Int64 × Int32)
  | 0, _, _ => none
  | n_ + 1, x4, x6 =>
    if 5 ≤ x6 then
      some (x4, x6)
    else
      if x6 < 0 ∨ 5 ≤ (Int32.toNatClampNeg x6) then none else
      (some ((x4 + (((S.2 0) (Int32.toNatClampNeg x6)) * (Int32.toInt64 (f_X4_netOf S x2 x3 x6)))) : Int64)).bind fun v3 =>
      f_X4_netBy_0_L6 x2 x3 S N_ n_ v3 (x6 + 1)
set_option maxRecDepth 100000 in
set_option maxHeartbeats 4000000 in
theorem k_X4_netBy_0_L6 (l : Launch) (g : gE) {p : Program} {e : Env} {s : State} {m : MethodId} {args : Array Value} {below : List Frame} {meth : Method} {c : Code} {Q : State → Prop} {A : Nat → Prop} {b : Nat → Nat}  (C : Cx p s m args c g A cX4_netBy 7 wA_X4_netBy RX4) (N_ : Nat) (x2 : Int32) (x3 : Int32) (S : (Nat → Nat → Int32) × (Nat → Nat → Int64)) : ∀ (n_ : Nat) (x4 : Int64) (x6 : Int32) (rv_ : Int64 × Int32), f_X4_netBy_0_L6 x2 x3 S N_ n_ x4 x6 = some rv_ → (Gm p l e (headSpec wA_X4_netBy ({ frames := 2, cells := 0, slots := 0, locals := 45 } : Room)).room s m args below meth c Q g A 7 0 0 (wM g b S) [some (.ref (b 0)), some (.ref (b 17)), some (.int x2), some (.int x3), some (.long rv_.1), none, some (.int rv_.2)] [] 37) → Gm p l e (headSpec wA_X4_netBy ({ frames := 2, cells := 0, slots := 0, locals := 45 } : Room)).room s m args below meth c Q g A 7 0 0 (wM g b S) [some (.ref (b 0)), some (.ref (b 17)), some (.int x2), some (.int x3), some (.long x4), none, some (.int x6)] [] 6 := by
  intro n_
  induction n_ with
  | zero =>
    intro x4 x6 rv_ hR
    simp [f_X4_netBy_0_L6] at hR
  | succ n_ ih =>
    intro x4 x6 rv_ hR hk
    rw [f_X4_netBy_0_L6] at hR
    refine g_iload C dX4_netBy_6 rfl 8 rfl ?_
    refine g_iconst C dX4_netBy_8 5 ic_5 9 rfl ?_
    refine g_icmp_ge C dX4_netBy_9 hR 37 12 (by decide) rfl (fun c_9 hR => ?_) (fun c_9 hR => ?_)
    · obtain rfl := Option.some.inj hR
      refine g_lv [some (.ref (b 0)), some (.ref (b 17)), some (.int x2), some (.int x3), some (.long x4), none, some (.int x6)] (lvLe.sm (lvLe.sm (lvLe.sm (lvLe.sm (lvLe.sm (lvLe.nn (lvLe.sm lvLe.nil))))))) ?_
      exact hk
    · refine g_lload C dX4_netBy_12 rfl 14 rfl ?_
      refine g_aload_n C dX4_netBy_14 rfl 15 rfl ?_
      refine g_iload C dX4_netBy_15 rfl 17 rfl ?_
      obtain ⟨h_17, hR⟩ := opt_n hR
      refine g_lald (f := (S.2 0)) C 17 rfl h_17 dX4_netBy_17 18 rfl ?_
      refine g_aload_n C dX4_netBy_18 rfl 19 rfl ?_
      refine g_iload_n C dX4_netBy_19 rfl 20 rfl ?_
      refine g_iload_n C dX4_netBy_20 rfl 21 rfl ?_
      refine g_iload C dX4_netBy_21 rfl 23 rfl ?_
      refine g_callIR C (rn_V C (k_X4_netOf l g b S x2 x3 x6) (cwV 3 C.1.2.2.2.2 (gdV wl_532 wl_529 wl_530 wl_531 wl_5) rfl rfl rfl hd_X4_netOf ⟨Nat.le_of_ble_eq_true rfl, Nat.le_of_ble_eq_true rfl⟩) 0 rfl rfl _ rg_C rg_n rfl rfl (Nat.le_of_ble_eq_true rfl) ⟨Nat.zero_le _, Nat.zero_le _⟩ dX4_netBy_23) 26 rfl ?_
      refine g_i2l C dX4_netBy_26 27 rfl ?_
      refine g_lmul C dX4_netBy_27 28 rfl ?_
      refine g_ladd C dX4_netBy_28 29 rfl ?_
      obtain ⟨v3, hv3, hR⟩ := opt_b hR
      refine g_topL (Option.some.inj hv3) ?_
      refine g_lstore C dX4_netBy_29 [_, _, _, _, _, _, _] (Nat.le_of_ble_eq_true rfl) rfl rfl 31 rfl ?_
      refine g_iinc C dX4_netBy_31 rfl 1 ic_1 [_, _, _, _, _, _, _] (Nat.le_of_ble_eq_true rfl) rfl rfl 34 rfl ?_
      refine g_goto C dX4_netBy_34 6 (by decide) ?_
      refine g_lv [some (.ref (b 0)), some (.ref (b 17)), some (.int x2), some (.int x3), some (.long v3), none, some (.int (x6 + 1))] (lvLe.sm (lvLe.sm (lvLe.sm (lvLe.sm (lvLe.sm (lvLe.nn (lvLe.sm lvLe.nil))))))) ?_
      exact ih _ _ rv_ hR hk
def f_X4_netBy_0 (S : (Nat → Nat → Int32) × (Nat → Nat → Int64)) (p0 : Int32) (p1 : Int32) (N_ : Nat) : Option (Int64) :=
  (f_X4_netBy_0_L6 p0 p1 S N_ N_ 0 0).bind fun v4 =>
  some v4.1
set_option maxRecDepth 100000 in
set_option maxHeartbeats 4000000 in
theorem k_X4_netBy_0 (l : Launch) (g : gE) (b : Nat → Nat) (S : (Nat → Nat → Int32) × (Nat → Nat → Int64)) (p0 : Int32) (p1 : Int32) (N_ : Nat) (R_ : Int64) (hR : f_X4_netBy_0 S p0 p1 N_ = some R_) : FnL l g yX4_netBy wA_X4_netBy { frames := 2, cells := 0, slots := 0, locals := 45 } [.ref (b 0), .ref (b 17), .int p0, .int p1] (wM g b S) R_ (wM g b S) := by
  refine fEntry (As := [.ref (b 0), .ref (b 17), .int p0, .int p1]) (maxL := 7) (ret := (some .long)) (by decide) rfl [some (.ref (b 0)), some (.ref (b 17)), some (.int p0), some (.int p1), none, none, none] (Nat.le_of_ble_eq_true rfl) (lvInB.to (lvInB.sm (lvInB.sm (lvInB.sm (lvInB.sm (lvInB.nn (lvInB.nn (lvInB.nn lvInB.nil)))))))) ?_
  intro p e s m below meth c A C hr hlocks hname hA
  have C : Cx p s m _ c g A cX4_netBy 7 wA_X4_netBy RX4 := C
  rw [f_X4_netBy_0] at hR
  refine g_lconst C dX4_netBy_0 0 (by decide) 1 rfl ?_
  refine g_lstore C dX4_netBy_1 [_, _, _, _, _, _, _] (Nat.le_of_ble_eq_true rfl) rfl rfl 3 rfl ?_
  refine g_iconst C dX4_netBy_3 0 ic_0 4 rfl ?_
  refine g_istore C dX4_netBy_4 [_, _, _, _, _, _, _] (Nat.le_of_ble_eq_true rfl) rfl rfl 6 rfl ?_
  refine g_lv [some (.ref (b 0)), some (.ref (b 17)), some (.int p0), some (.int p1), some (.long 0), none, some (.int 0)] (lvLe.sm (lvLe.sm (lvLe.sm (lvLe.sm (lvLe.sm (lvLe.nn (lvLe.sm lvLe.nil))))))) ?_
  obtain ⟨v4, hv4, hR⟩ := opt_b hR
  refine k_X4_netBy_0_L6 l g C N_ p0 p1 S N_ 0 0 _ hv4 ?_
  refine g_lload C dX4_netBy_37 rfl 39 rfl ?_
  obtain rfl := Option.some.inj hR
  exact g_lret C hr hlocks hA (by first | (dsimp only; done) | rfl) (by first | (dsimp only; done) | rfl) dX4_netBy_39
def f_X4_netBy_1_L6 (x2 : Int32) (x3 : Int32) (S : (Nat → Nat → Int32) × (Nat → Nat → Int64)) (N_ : Nat) : Nat → Int64 → Int32 → Option (Int64 × Int32)
  | 0, _, _ => none
  | n_ + 1, x4, x6 =>
    if 5 ≤ x6 then
      some (x4, x6)
    else
      if x6 < 0 ∨ 5 ≤ (Int32.toNatClampNeg x6) then none else
      (some ((x4 + (((S.2 1) (Int32.toNatClampNeg x6)) * (Int32.toInt64 (f_X4_netOf S x2 x3 x6)))) : Int64)).bind fun v3 =>
      f_X4_netBy_1_L6 x2 x3 S N_ n_ v3 (x6 + 1)
set_option maxRecDepth 100000 in
set_option maxHeartbeats 4000000 in
theorem k_X4_netBy_1_L6 (l : Launch) (g : gE) {p : Program} {e : Env} {s : State} {m : MethodId} {args : Array Value} {below : List Frame} {meth : Method} {c : Code} {Q : State → Prop} {A : Nat → Prop} {b : Nat → Nat}  (C : Cx p s m args c g A cX4_netBy 7 wA_X4_netBy RX4) (N_ : Nat) (x2 : Int32) (x3 : Int32) (S : (Nat → Nat → Int32) × (Nat → Nat → Int64)) : ∀ (n_ : Nat) (x4 : Int64) (x6 : Int32) (rv_ : Int64 × Int32), f_X4_netBy_1_L6 x2 x3 S N_ n_ x4 x6 = some rv_ → (Gm p l e (headSpec wA_X4_netBy ({ frames := 2, cells := 0, slots := 0, locals := 45 } : Room)).room s m args below meth c Q g A 7 0 0 (wM g b S) [some (.ref (b 0)), some (.ref (b 18)), some (.int x2), some (.int x3), some (.long rv_.1), none, some (.int rv_.2)] [] 37) → Gm p l e (headSpec wA_X4_netBy ({ frames := 2, cells := 0, slots := 0, locals := 45 } : Room)).room s m args below meth c Q g A 7 0 0 (wM g b S) [some (.ref (b 0)), some (.ref (b 18)), some (.int x2), some (.int x3), some (.long x4), none, some (.int x6)] [] 6 := by
  intro n_
  induction n_ with
  | zero =>
    intro x4 x6 rv_ hR
    simp [f_X4_netBy_1_L6] at hR
  | succ n_ ih =>
    intro x4 x6 rv_ hR hk
    rw [f_X4_netBy_1_L6] at hR
    refine g_iload C dX4_netBy_6 rfl 8 rfl ?_
    refine g_iconst C dX4_netBy_8 5 ic_5 9 rfl ?_
    refine g_icmp_ge C dX4_netBy_9 hR 37 12 (by decide) rfl (fun c_9 hR => ?_) (fun c_9 hR => ?_)
    · obtain rfl := Option.some.inj hR
      refine g_lv [some (.ref (b 0)), some (.ref (b 18)), some (.int x2), some (.int x3), some (.long x4), none, some (.int x6)] (lvLe.sm (lvLe.sm (lvLe.sm (lvLe.sm (lvLe.sm (lvLe.nn (lvLe.sm lvLe.nil))))))) ?_
      exact hk
    · refine g_lload C dX4_netBy_12 rfl 14 rfl ?_
      refine g_aload_n C dX4_netBy_14 rfl 15 rfl ?_
      refine g_iload C dX4_netBy_15 rfl 17 rfl ?_
      obtain ⟨h_17, hR⟩ := opt_n hR
      refine g_lald (f := (S.2 1)) C 18 rfl h_17 dX4_netBy_17 18 rfl ?_
      refine g_aload_n C dX4_netBy_18 rfl 19 rfl ?_
      refine g_iload_n C dX4_netBy_19 rfl 20 rfl ?_
      refine g_iload_n C dX4_netBy_20 rfl 21 rfl ?_
      refine g_iload C dX4_netBy_21 rfl 23 rfl ?_
      refine g_callIR C (rn_V C (k_X4_netOf l g b S x2 x3 x6) (cwV 3 C.1.2.2.2.2 (gdV wl_532 wl_529 wl_530 wl_531 wl_5) rfl rfl rfl hd_X4_netOf ⟨Nat.le_of_ble_eq_true rfl, Nat.le_of_ble_eq_true rfl⟩) 0 rfl rfl _ rg_C rg_n rfl rfl (Nat.le_of_ble_eq_true rfl) ⟨Nat.zero_le _, Nat.zero_le _⟩ dX4_netBy_23) 26 rfl ?_
      refine g_i2l C dX4_netBy_26 27 rfl ?_
      refine g_lmul C dX4_netBy_27 28 rfl ?_
      refine g_ladd C dX4_netBy_28 29 rfl ?_
      obtain ⟨v3, hv3, hR⟩ := opt_b hR
      refine g_topL (Option.some.inj hv3) ?_
      refine g_lstore C dX4_netBy_29 [_, _, _, _, _, _, _] (Nat.le_of_ble_eq_true rfl) rfl rfl 31 rfl ?_
      refine g_iinc C dX4_netBy_31 rfl 1 ic_1 [_, _, _, _, _, _, _] (Nat.le_of_ble_eq_true rfl) rfl rfl 34 rfl ?_
      refine g_goto C dX4_netBy_34 6 (by decide) ?_
      refine g_lv [some (.ref (b 0)), some (.ref (b 18)), some (.int x2), some (.int x3), some (.long v3), none, some (.int (x6 + 1))] (lvLe.sm (lvLe.sm (lvLe.sm (lvLe.sm (lvLe.sm (lvLe.nn (lvLe.sm lvLe.nil))))))) ?_
      exact ih _ _ rv_ hR hk
def f_X4_netBy_1 (S : (Nat → Nat → Int32) × (Nat → Nat → Int64)) (p0 : Int32) (p1 : Int32) (N_ : Nat) : Option (Int64) :=
  (f_X4_netBy_1_L6 p0 p1 S N_ N_ 0 0).bind fun v4 =>
  some v4.1
set_option maxRecDepth 100000 in
set_option maxHeartbeats 4000000 in
theorem k_X4_netBy_1 (l : Launch) (g : gE) (b : Nat → Nat) (S : (Nat → Nat → Int32) × (Nat → Nat → Int64)) (p0 : Int32) (p1 : Int32) (N_ : Nat) (R_ : Int64) (hR : f_X4_netBy_1 S p0 p1 N_ = some R_) : FnL l g yX4_netBy wA_X4_netBy { frames := 2, cells := 0, slots := 0, locals := 45 } [.ref (b 0), .ref (b 18), .int p0, .int p1] (wM g b S) R_ (wM g b S) := by
  refine fEntry (As := [.ref (b 0), .ref (b 18), .int p0, .int p1]) (maxL := 7) (ret := (some .long)) (by decide) rfl [some (.ref (b 0)), some (.ref (b 18)), some (.int p0), some (.int p1), none, none, none] (Nat.le_of_ble_eq_true rfl) (lvInB.to (lvInB.sm (lvInB.sm (lvInB.sm (lvInB.sm (lvInB.nn (lvInB.nn (lvInB.nn lvInB.nil)))))))) ?_
  intro p e s m below meth c A C hr hlocks hname hA
  have C : Cx p s m _ c g A cX4_netBy 7 wA_X4_netBy RX4 := C
  rw [f_X4_netBy_1] at hR
  refine g_lconst C dX4_netBy_0 0 (by decide) 1 rfl ?_
  refine g_lstore C dX4_netBy_1 [_, _, _, _, _, _, _] (Nat.le_of_ble_eq_true rfl) rfl rfl 3 rfl ?_
  refine g_iconst C dX4_netBy_3 0 ic_0 4 rfl ?_
  refine g_istore C dX4_netBy_4 [_, _, _, _, _, _, _] (Nat.le_of_ble_eq_true rfl) rfl rfl 6 rfl ?_
  refine g_lv [some (.ref (b 0)), some (.ref (b 18)), some (.int p0), some (.int p1), some (.long 0), none, some (.int 0)] (lvLe.sm (lvLe.sm (lvLe.sm (lvLe.sm (lvLe.sm (lvLe.nn (lvLe.sm lvLe.nil))))))) ?_
  obtain ⟨v4, hv4, hR⟩ := opt_b hR
  refine k_X4_netBy_1_L6 l g C N_ p0 p1 S N_ 0 0 _ hv4 ?_
  refine g_lload C dX4_netBy_37 rfl 39 rfl ?_
  obtain rfl := Option.some.inj hR
  exact g_lret C hr hlocks hA (by first | (dsimp only; done) | rfl) (by first | (dsimp only; done) | rfl) dX4_netBy_39
def f_X4_netBy_2_L6 (x2 : Int32) (x3 : Int32) (S : (Nat → Nat → Int32) × (Nat → Nat → Int64)) (N_ : Nat) : Nat → Int64 → Int32 → Option (Int64 × Int32)
  | 0, _, _ => none
  | n_ + 1, x4, x6 =>
    if 5 ≤ x6 then
      some (x4, x6)
    else
      if x6 < 0 ∨ 5 ≤ (Int32.toNatClampNeg x6) then none else
      (some ((x4 + (((S.2 2) (Int32.toNatClampNeg x6)) * (Int32.toInt64 (f_X4_netOf S x2 x3 x6)))) : Int64)).bind fun v3 =>
      f_X4_netBy_2_L6 x2 x3 S N_ n_ v3 (x6 + 1)
set_option maxRecDepth 100000 in
set_option maxHeartbeats 4000000 in
theorem k_X4_netBy_2_L6 (l : Launch) (g : gE) {p : Program} {e : Env} {s : State} {m : MethodId} {args : Array Value} {below : List Frame} {meth : Method} {c : Code} {Q : State → Prop} {A : Nat → Prop} {b : Nat → Nat}  (C : Cx p s m args c g A cX4_netBy 7 wA_X4_netBy RX4) (N_ : Nat) (x2 : Int32) (x3 : Int32) (S : (Nat → Nat → Int32) × (Nat → Nat → Int64)) : ∀ (n_ : Nat) (x4 : Int64) (x6 : Int32) (rv_ : Int64 × Int32), f_X4_netBy_2_L6 x2 x3 S N_ n_ x4 x6 = some rv_ → (Gm p l e (headSpec wA_X4_netBy ({ frames := 2, cells := 0, slots := 0, locals := 45 } : Room)).room s m args below meth c Q g A 7 0 0 (wM g b S) [some (.ref (b 0)), some (.ref (b 19)), some (.int x2), some (.int x3), some (.long rv_.1), none, some (.int rv_.2)] [] 37) → Gm p l e (headSpec wA_X4_netBy ({ frames := 2, cells := 0, slots := 0, locals := 45 } : Room)).room s m args below meth c Q g A 7 0 0 (wM g b S) [some (.ref (b 0)), some (.ref (b 19)), some (.int x2), some (.int x3), some (.long x4), none, some (.int x6)] [] 6 := by
  intro n_
  induction n_ with
  | zero =>
    intro x4 x6 rv_ hR
    simp [f_X4_netBy_2_L6] at hR
  | succ n_ ih =>
    intro x4 x6 rv_ hR hk
    rw [f_X4_netBy_2_L6] at hR
    refine g_iload C dX4_netBy_6 rfl 8 rfl ?_
    refine g_iconst C dX4_netBy_8 5 ic_5 9 rfl ?_
    refine g_icmp_ge C dX4_netBy_9 hR 37 12 (by decide) rfl (fun c_9 hR => ?_) (fun c_9 hR => ?_)
    · obtain rfl := Option.some.inj hR
      refine g_lv [some (.ref (b 0)), some (.ref (b 19)), some (.int x2), some (.int x3), some (.long x4), none, some (.int x6)] (lvLe.sm (lvLe.sm (lvLe.sm (lvLe.sm (lvLe.sm (lvLe.nn (lvLe.sm lvLe.nil))))))) ?_
      exact hk
    · refine g_lload C dX4_netBy_12 rfl 14 rfl ?_
      refine g_aload_n C dX4_netBy_14 rfl 15 rfl ?_
      refine g_iload C dX4_netBy_15 rfl 17 rfl ?_
      obtain ⟨h_17, hR⟩ := opt_n hR
      refine g_lald (f := (S.2 2)) C 19 rfl h_17 dX4_netBy_17 18 rfl ?_
      refine g_aload_n C dX4_netBy_18 rfl 19 rfl ?_
      refine g_iload_n C dX4_netBy_19 rfl 20 rfl ?_
      refine g_iload_n C dX4_netBy_20 rfl 21 rfl ?_
      refine g_iload C dX4_netBy_21 rfl 23 rfl ?_
      refine g_callIR C (rn_V C (k_X4_netOf l g b S x2 x3 x6) (cwV 3 C.1.2.2.2.2 (gdV wl_532 wl_529 wl_530 wl_531 wl_5) rfl rfl rfl hd_X4_netOf ⟨Nat.le_of_ble_eq_true rfl, Nat.le_of_ble_eq_true rfl⟩) 0 rfl rfl _ rg_C rg_n rfl rfl (Nat.le_of_ble_eq_true rfl) ⟨Nat.zero_le _, Nat.zero_le _⟩ dX4_netBy_23) 26 rfl ?_
      refine g_i2l C dX4_netBy_26 27 rfl ?_
      refine g_lmul C dX4_netBy_27 28 rfl ?_
      refine g_ladd C dX4_netBy_28 29 rfl ?_
      obtain ⟨v3, hv3, hR⟩ := opt_b hR
      refine g_topL (Option.some.inj hv3) ?_
      refine g_lstore C dX4_netBy_29 [_, _, _, _, _, _, _] (Nat.le_of_ble_eq_true rfl) rfl rfl 31 rfl ?_
      refine g_iinc C dX4_netBy_31 rfl 1 ic_1 [_, _, _, _, _, _, _] (Nat.le_of_ble_eq_true rfl) rfl rfl 34 rfl ?_
      refine g_goto C dX4_netBy_34 6 (by decide) ?_
      refine g_lv [some (.ref (b 0)), some (.ref (b 19)), some (.int x2), some (.int x3), some (.long v3), none, some (.int (x6 + 1))] (lvLe.sm (lvLe.sm (lvLe.sm (lvLe.sm (lvLe.sm (lvLe.nn (lvLe.sm lvLe.nil))))))) ?_
      exact ih _ _ rv_ hR hk
def f_X4_netBy_2 (S : (Nat → Nat → Int32) × (Nat → Nat → Int64)) (p0 : Int32) (p1 : Int32) (N_ : Nat) : Option (Int64) :=
  (f_X4_netBy_2_L6 p0 p1 S N_ N_ 0 0).bind fun v4 =>
  some v4.1
set_option maxRecDepth 100000 in
set_option maxHeartbeats 4000000 in
theorem k_X4_netBy_2 (l : Launch) (g : gE) (b : Nat → Nat) (S : (Nat → Nat → Int32) × (Nat → Nat → Int64)) (p0 : Int32) (p1 : Int32) (N_ : Nat) (R_ : Int64) (hR : f_X4_netBy_2 S p0 p1 N_ = some R_) : FnL l g yX4_netBy wA_X4_netBy { frames := 2, cells := 0, slots := 0, locals := 45 } [.ref (b 0), .ref (b 19), .int p0, .int p1] (wM g b S) R_ (wM g b S) := by
  refine fEntry (As := [.ref (b 0), .ref (b 19), .int p0, .int p1]) (maxL := 7) (ret := (some .long)) (by decide) rfl [some (.ref (b 0)), some (.ref (b 19)), some (.int p0), some (.int p1), none, none, none] (Nat.le_of_ble_eq_true rfl) (lvInB.to (lvInB.sm (lvInB.sm (lvInB.sm (lvInB.sm (lvInB.nn (lvInB.nn (lvInB.nn lvInB.nil)))))))) ?_
  intro p e s m below meth c A C hr hlocks hname hA
  have C : Cx p s m _ c g A cX4_netBy 7 wA_X4_netBy RX4 := C
  rw [f_X4_netBy_2] at hR
  refine g_lconst C dX4_netBy_0 0 (by decide) 1 rfl ?_
  refine g_lstore C dX4_netBy_1 [_, _, _, _, _, _, _] (Nat.le_of_ble_eq_true rfl) rfl rfl 3 rfl ?_
  refine g_iconst C dX4_netBy_3 0 ic_0 4 rfl ?_
  refine g_istore C dX4_netBy_4 [_, _, _, _, _, _, _] (Nat.le_of_ble_eq_true rfl) rfl rfl 6 rfl ?_
  refine g_lv [some (.ref (b 0)), some (.ref (b 19)), some (.int p0), some (.int p1), some (.long 0), none, some (.int 0)] (lvLe.sm (lvLe.sm (lvLe.sm (lvLe.sm (lvLe.sm (lvLe.nn (lvLe.sm lvLe.nil))))))) ?_
  obtain ⟨v4, hv4, hR⟩ := opt_b hR
  refine k_X4_netBy_2_L6 l g C N_ p0 p1 S N_ 0 0 _ hv4 ?_
  refine g_lload C dX4_netBy_37 rfl 39 rfl ?_
  obtain rfl := Option.some.inj hR
  exact g_lret C hr hlocks hA (by first | (dsimp only; done) | rfl) (by first | (dsimp only; done) | rfl) dX4_netBy_39
theorem hd_X4_bestUse : yX4_bestUse.cls = RX4 ∧ yX4_bestUse.cls ≠ "java/lang/invoke/MethodHandle" ∧ yX4_bestUse.cls ≠ "java/lang/invoke/VarHandle" ∧ (parseMethodDescriptor yX4_bestUse.desc).map (fun d => d.parameters.length) = some 2 := by decide +kernel
def f_X4_bestUse_0_L5 (x2 : Int32) (S : (Nat → Nat → Int32) × (Nat → Nat → Int64)) (N_ : Nat) : Nat → Int32 → Int32 → Option (Int32 × Int32)
  | 0, _, _ => none
  | n_ + 1, x3, x4 =>
    if 5 ≤ x4 then
      some (x3, x4)
    else
      (f_X4_netBy_0 S x4 x2 N_).bind fun v5 =>
      (f_X4_netBy_0 S x3 x2 N_).bind fun v6 =>
      if (lg_cmp v5 v6) ≤ 0 then
        f_X4_bestUse_0_L5 x2 S N_ n_ x3 (x4 + 1)
      else
        f_X4_bestUse_0_L5 x2 S N_ n_ x4 (x4 + 1)
set_option maxRecDepth 100000 in
set_option maxHeartbeats 4000000 in
theorem k_X4_bestUse_0_L5 (l : Launch) (g : gE) {p : Program} {e : Env} {s : State} {m : MethodId} {args : Array Value} {below : List Frame} {meth : Method} {c : Code} {Q : State → Prop} {A : Nat → Prop} {b : Nat → Nat}  (C : Cx p s m args c g A cX4_bestUse 5 wA_X4_bestUse RX4) (N_ : Nat) (x2 : Int32) (S : (Nat → Nat → Int32) × (Nat → Nat → Int64)) : ∀ (n_ : Nat) (x3 : Int32) (x4 : Int32) (rv_ : Int32 × Int32), f_X4_bestUse_0_L5 x2 S N_ n_ x3 x4 = some rv_ → (Gm p l e (headSpec wA_X4_bestUse ({ frames := 3, cells := 0, slots := 0, locals := 71 } : Room)).room s m args below meth c Q g A 5 0 0 (wM g b S) [some (.ref (b 0)), some (.ref (b 17)), some (.int x2), some (.int rv_.1), some (.int rv_.2)] [] 43) → Gm p l e (headSpec wA_X4_bestUse ({ frames := 3, cells := 0, slots := 0, locals := 71 } : Room)).room s m args below meth c Q g A 5 0 0 (wM g b S) [some (.ref (b 0)), some (.ref (b 17)), some (.int x2), some (.int x3), some (.int x4)] [] 5 := by
  intro n_
  induction n_ with
  | zero =>
    intro x3 x4 rv_ hR
    simp [f_X4_bestUse_0_L5] at hR
  | succ n_ ih =>
    intro x3 x4 rv_ hR hk
    rw [f_X4_bestUse_0_L5] at hR
    refine g_iload C dX4_bestUse_5 rfl 7 rfl ?_
    refine g_iconst C dX4_bestUse_7 5 ic_5 8 rfl ?_
    refine g_icmp_ge C dX4_bestUse_8 hR 43 11 (by decide) rfl (fun c_8 hR => ?_) (fun c_8 hR => ?_)
    · obtain rfl := Option.some.inj hR
      refine g_lv [some (.ref (b 0)), some (.ref (b 17)), some (.int x2), some (.int x3), some (.int x4)] (lvLe.sm (lvLe.sm (lvLe.sm (lvLe.sm (lvLe.sm lvLe.nil))))) ?_
      exact hk
    · refine g_aload_n C dX4_bestUse_11 rfl 12 rfl ?_
      refine g_aload_n C dX4_bestUse_12 rfl 13 rfl ?_
      refine g_iload C dX4_bestUse_13 rfl 15 rfl ?_
      refine g_iload_n C dX4_bestUse_15 rfl 16 rfl ?_
      obtain ⟨v5, hv5, hR⟩ := opt_b hR
      refine g_callLR C (rn_V C (k_X4_netBy_0 l g b S x4 x2 N_ v5 hv5) (cwV 3 C.1.2.2.2.2 (gdV wl_528 wl_525 wl_526 wl_527 wl_5) rfl rfl rfl hd_X4_netBy ⟨Nat.le_of_ble_eq_true rfl, Nat.le_of_ble_eq_true rfl⟩) 0 rfl rfl _ rg_C rg_n rfl rfl (Nat.le_of_ble_eq_true rfl) ⟨Nat.zero_le _, Nat.zero_le _⟩ dX4_bestUse_16) 19 rfl ?_
      refine g_aload_n C dX4_bestUse_19 rfl 20 rfl ?_
      refine g_aload_n C dX4_bestUse_20 rfl 21 rfl ?_
      refine g_iload_n C dX4_bestUse_21 rfl 22 rfl ?_
      refine g_iload_n C dX4_bestUse_22 rfl 23 rfl ?_
      obtain ⟨v6, hv6, hR⟩ := opt_b hR
      refine g_callLR C (rn_V C (k_X4_netBy_0 l g b S x3 x2 N_ v6 hv6) (cwV 3 C.1.2.2.2.2 (gdV wl_528 wl_525 wl_526 wl_527 wl_5) rfl rfl rfl hd_X4_netBy ⟨Nat.le_of_ble_eq_true rfl, Nat.le_of_ble_eq_true rfl⟩) 0 rfl rfl _ rg_C rg_n rfl rfl (Nat.le_of_ble_eq_true rfl) ⟨Nat.zero_le _, Nat.zero_le _⟩ dX4_bestUse_23) 26 rfl ?_
      refine g_lcmp C dX4_bestUse_26 27 rfl ?_
      refine g_if_le C dX4_bestUse_27 hR 35 30 (by decide) rfl (fun c_27 hR => ?_) (fun c_27 hR => ?_)
      · refine g_iload_n C dX4_bestUse_35 rfl 36 rfl ?_
        refine g_istore_n C dX4_bestUse_36 [_, _, _, _, _] (Nat.le_of_ble_eq_true rfl) rfl rfl 37 rfl ?_
        refine g_iinc C dX4_bestUse_37 rfl 1 ic_1 [_, _, _, _, _] (Nat.le_of_ble_eq_true rfl) rfl rfl 40 rfl ?_
        refine g_goto C dX4_bestUse_40 5 (by decide) ?_
        refine g_lv [some (.ref (b 0)), some (.ref (b 17)), some (.int x2), some (.int x3), some (.int (x4 + 1))] (lvLe.sm (lvLe.sm (lvLe.sm (lvLe.sm (lvLe.sm lvLe.nil))))) ?_
        exact ih _ _ rv_ hR hk
      · refine g_iload C dX4_bestUse_30 rfl 32 rfl ?_
        refine g_goto C dX4_bestUse_32 36 (by decide) ?_
        refine g_istore_n C dX4_bestUse_36 [_, _, _, _, _] (Nat.le_of_ble_eq_true rfl) rfl rfl 37 rfl ?_
        refine g_iinc C dX4_bestUse_37 rfl 1 ic_1 [_, _, _, _, _] (Nat.le_of_ble_eq_true rfl) rfl rfl 40 rfl ?_
        refine g_goto C dX4_bestUse_40 5 (by decide) ?_
        refine g_lv [some (.ref (b 0)), some (.ref (b 17)), some (.int x2), some (.int x4), some (.int (x4 + 1))] (lvLe.sm (lvLe.sm (lvLe.sm (lvLe.sm (lvLe.sm lvLe.nil))))) ?_
        exact ih _ _ rv_ hR hk
def f_X4_bestUse_0 (S : (Nat → Nat → Int32) × (Nat → Nat → Int64)) (p0 : Int32) (N_ : Nat) : Option (Int32) :=
  (f_X4_bestUse_0_L5 p0 S N_ N_ 0 1).bind fun v7 =>
  some v7.1
set_option maxRecDepth 100000 in
set_option maxHeartbeats 4000000 in
theorem k_X4_bestUse_0 (l : Launch) (g : gE) (b : Nat → Nat) (S : (Nat → Nat → Int32) × (Nat → Nat → Int64)) (p0 : Int32) (N_ : Nat) (R_ : Int32) (hR : f_X4_bestUse_0 S p0 N_ = some R_) : FnI l g yX4_bestUse wA_X4_bestUse { frames := 3, cells := 0, slots := 0, locals := 71 } [.ref (b 0), .ref (b 17), .int p0] (wM g b S) R_ (wM g b S) := by
  refine fEntry (As := [.ref (b 0), .ref (b 17), .int p0]) (maxL := 5) (ret := (some .int)) (by decide) rfl [some (.ref (b 0)), some (.ref (b 17)), some (.int p0), none, none] (Nat.le_of_ble_eq_true rfl) (lvInB.to (lvInB.sm (lvInB.sm (lvInB.sm (lvInB.nn (lvInB.nn lvInB.nil)))))) ?_
  intro p e s m below meth c A C hr hlocks hname hA
  have C : Cx p s m _ c g A cX4_bestUse 5 wA_X4_bestUse RX4 := C
  rw [f_X4_bestUse_0] at hR
  refine g_iconst C dX4_bestUse_0 0 ic_0 1 rfl ?_
  refine g_istore_n C dX4_bestUse_1 [_, _, _, _, _] (Nat.le_of_ble_eq_true rfl) rfl rfl 2 rfl ?_
  refine g_iconst C dX4_bestUse_2 1 ic_1 3 rfl ?_
  refine g_istore C dX4_bestUse_3 [_, _, _, _, _] (Nat.le_of_ble_eq_true rfl) rfl rfl 5 rfl ?_
  refine g_lv [some (.ref (b 0)), some (.ref (b 17)), some (.int p0), some (.int 0), some (.int 1)] (lvLe.sm (lvLe.sm (lvLe.sm (lvLe.sm (lvLe.sm lvLe.nil))))) ?_
  obtain ⟨v7, hv7, hR⟩ := opt_b hR
  refine k_X4_bestUse_0_L5 l g C N_ p0 S N_ 0 1 _ hv7 ?_
  refine g_iload_n C dX4_bestUse_43 rfl 44 rfl ?_
  obtain rfl := Option.some.inj hR
  exact g_iret C hr hlocks hA (by first | (dsimp only; done) | rfl) (by first | (dsimp only; done) | rfl) dX4_bestUse_44
def f_X4_bestUse_1_L5 (x2 : Int32) (S : (Nat → Nat → Int32) × (Nat → Nat → Int64)) (N_ : Nat) : Nat → Int32 → Int32 → Option (Int32 × Int32)
  | 0, _, _ => none
  | n_ + 1, x3, x4 =>
    if 5 ≤ x4 then
      some (x3, x4)
    else
      (f_X4_netBy_1 S x4 x2 N_).bind fun v5 =>
      (f_X4_netBy_1 S x3 x2 N_).bind fun v6 =>
      if (lg_cmp v5 v6) ≤ 0 then
        f_X4_bestUse_1_L5 x2 S N_ n_ x3 (x4 + 1)
      else
        f_X4_bestUse_1_L5 x2 S N_ n_ x4 (x4 + 1)
set_option maxRecDepth 100000 in
set_option maxHeartbeats 4000000 in
theorem k_X4_bestUse_1_L5 (l : Launch) (g : gE) {p : Program} {e : Env} {s : State} {m : MethodId} {args : Array Value} {below : List Frame} {meth : Method} {c : Code} {Q : State → Prop} {A : Nat → Prop} {b : Nat → Nat}  (C : Cx p s m args c g A cX4_bestUse 5 wA_X4_bestUse RX4) (N_ : Nat) (x2 : Int32) (S : (Nat → Nat → Int32) × (Nat → Nat → Int64)) : ∀ (n_ : Nat) (x3 : Int32) (x4 : Int32) (rv_ : Int32 × Int32), f_X4_bestUse_1_L5 x2 S N_ n_ x3 x4 = some rv_ → (Gm p l e (headSpec wA_X4_bestUse ({ frames := 3, cells := 0, slots := 0, locals := 71 } : Room)).room s m args below meth c Q g A 5 0 0 (wM g b S) [some (.ref (b 0)), some (.ref (b 18)), some (.int x2), some (.int rv_.1), some (.int rv_.2)] [] 43) → Gm p l e (headSpec wA_X4_bestUse ({ frames := 3, cells := 0, slots := 0, locals := 71 } : Room)).room s m args below meth c Q g A 5 0 0 (wM g b S) [some (.ref (b 0)), some (.ref (b 18)), some (.int x2), some (.int x3), some (.int x4)] [] 5 := by
  intro n_
  induction n_ with
  | zero =>
    intro x3 x4 rv_ hR
    simp [f_X4_bestUse_1_L5] at hR
  | succ n_ ih =>
    intro x3 x4 rv_ hR hk
    rw [f_X4_bestUse_1_L5] at hR
    refine g_iload C dX4_bestUse_5 rfl 7 rfl ?_
    refine g_iconst C dX4_bestUse_7 5 ic_5 8 rfl ?_
    refine g_icmp_ge C dX4_bestUse_8 hR 43 11 (by decide) rfl (fun c_8 hR => ?_) (fun c_8 hR => ?_)
    · obtain rfl := Option.some.inj hR
      refine g_lv [some (.ref (b 0)), some (.ref (b 18)), some (.int x2), some (.int x3), some (.int x4)] (lvLe.sm (lvLe.sm (lvLe.sm (lvLe.sm (lvLe.sm lvLe.nil))))) ?_
      exact hk
    · refine g_aload_n C dX4_bestUse_11 rfl 12 rfl ?_
      refine g_aload_n C dX4_bestUse_12 rfl 13 rfl ?_
      refine g_iload C dX4_bestUse_13 rfl 15 rfl ?_
      refine g_iload_n C dX4_bestUse_15 rfl 16 rfl ?_
      obtain ⟨v5, hv5, hR⟩ := opt_b hR
      refine g_callLR C (rn_V C (k_X4_netBy_1 l g b S x4 x2 N_ v5 hv5) (cwV 3 C.1.2.2.2.2 (gdV wl_528 wl_525 wl_526 wl_527 wl_5) rfl rfl rfl hd_X4_netBy ⟨Nat.le_of_ble_eq_true rfl, Nat.le_of_ble_eq_true rfl⟩) 0 rfl rfl _ rg_C rg_n rfl rfl (Nat.le_of_ble_eq_true rfl) ⟨Nat.zero_le _, Nat.zero_le _⟩ dX4_bestUse_16) 19 rfl ?_
      refine g_aload_n C dX4_bestUse_19 rfl 20 rfl ?_
      refine g_aload_n C dX4_bestUse_20 rfl 21 rfl ?_
      refine g_iload_n C dX4_bestUse_21 rfl 22 rfl ?_
      refine g_iload_n C dX4_bestUse_22 rfl 23 rfl ?_
      obtain ⟨v6, hv6, hR⟩ := opt_b hR
      refine g_callLR C (rn_V C (k_X4_netBy_1 l g b S x3 x2 N_ v6 hv6) (cwV 3 C.1.2.2.2.2 (gdV wl_528 wl_525 wl_526 wl_527 wl_5) rfl rfl rfl hd_X4_netBy ⟨Nat.le_of_ble_eq_true rfl, Nat.le_of_ble_eq_true rfl⟩) 0 rfl rfl _ rg_C rg_n rfl rfl (Nat.le_of_ble_eq_true rfl) ⟨Nat.zero_le _, Nat.zero_le _⟩ dX4_bestUse_23) 26 rfl ?_
      refine g_lcmp C dX4_bestUse_26 27 rfl ?_
      refine g_if_le C dX4_bestUse_27 hR 35 30 (by decide) rfl (fun c_27 hR => ?_) (fun c_27 hR => ?_)
      · refine g_iload_n C dX4_bestUse_35 rfl 36 rfl ?_
        refine g_istore_n C dX4_bestUse_36 [_, _, _, _, _] (Nat.le_of_ble_eq_true rfl) rfl rfl 37 rfl ?_
        refine g_iinc C dX4_bestUse_37 rfl 1 ic_1 [_, _, _, _, _] (Nat.le_of_ble_eq_true rfl) rfl rfl 40 rfl ?_
        refine g_goto C dX4_bestUse_40 5 (by decide) ?_
        refine g_lv [some (.ref (b 0)), some (.ref (b 18)), some (.int x2), some (.int x3), some (.int (x4 + 1))] (lvLe.sm (lvLe.sm (lvLe.sm (lvLe.sm (lvLe.sm lvLe.nil))))) ?_
        exact ih _ _ rv_ hR hk
      · refine g_iload C dX4_bestUse_30 rfl 32 rfl ?_
        refine g_goto C dX4_bestUse_32 36 (by decide) ?_
        refine g_istore_n C dX4_bestUse_36 [_, _, _, _, _] (Nat.le_of_ble_eq_true rfl) rfl rfl 37 rfl ?_
        refine g_iinc C dX4_bestUse_37 rfl 1 ic_1 [_, _, _, _, _] (Nat.le_of_ble_eq_true rfl) rfl rfl 40 rfl ?_
        refine g_goto C dX4_bestUse_40 5 (by decide) ?_
        refine g_lv [some (.ref (b 0)), some (.ref (b 18)), some (.int x2), some (.int x4), some (.int (x4 + 1))] (lvLe.sm (lvLe.sm (lvLe.sm (lvLe.sm (lvLe.sm lvLe.nil))))) ?_
        exact ih _ _ rv_ hR hk
def f_X4_bestUse_1 (S : (Nat → Nat → Int32) × (Nat → Nat → Int64)) (p0 : Int32) (N_ : Nat) : Option (Int32) :=
  (f_X4_bestUse_1_L5 p0 S N_ N_ 0 1).bind fun v7 =>
  some v7.1
set_option maxRecDepth 100000 in
set_option maxHeartbeats 4000000 in
theorem k_X4_bestUse_1 (l : Launch) (g : gE) (b : Nat → Nat) (S : (Nat → Nat → Int32) × (Nat → Nat → Int64)) (p0 : Int32) (N_ : Nat) (R_ : Int32) (hR : f_X4_bestUse_1 S p0 N_ = some R_) : FnI l g yX4_bestUse wA_X4_bestUse { frames := 3, cells := 0, slots := 0, locals := 71 } [.ref (b 0), .ref (b 18), .int p0] (wM g b S) R_ (wM g b S) := by
  refine fEntry (As := [.ref (b 0), .ref (b 18), .int p0]) (maxL := 5) (ret := (some .int)) (by decide) rfl [some (.ref (b 0)), some (.ref (b 18)), some (.int p0), none, none] (Nat.le_of_ble_eq_true rfl) (lvInB.to (lvInB.sm (lvInB.sm (lvInB.sm (lvInB.nn (lvInB.nn lvInB.nil)))))) ?_
  intro p e s m below meth c A C hr hlocks hname hA
  have C : Cx p s m _ c g A cX4_bestUse 5 wA_X4_bestUse RX4 := C
  rw [f_X4_bestUse_1] at hR
  refine g_iconst C dX4_bestUse_0 0 ic_0 1 rfl ?_
  refine g_istore_n C dX4_bestUse_1 [_, _, _, _, _] (Nat.le_of_ble_eq_true rfl) rfl rfl 2 rfl ?_
  refine g_iconst C dX4_bestUse_2 1 ic_1 3 rfl ?_
  refine g_istore C dX4_bestUse_3 [_, _, _, _, _] (Nat.le_of_ble_eq_true rfl) rfl rfl 5 rfl ?_
  refine g_lv [some (.ref (b 0)), some (.ref (b 18)), some (.int p0), some (.int 0), some (.int 1)] (lvLe.sm (lvLe.sm (lvLe.sm (lvLe.sm (lvLe.sm lvLe.nil))))) ?_
  obtain ⟨v7, hv7, hR⟩ := opt_b hR
  refine k_X4_bestUse_1_L5 l g C N_ p0 S N_ 0 1 _ hv7 ?_
  refine g_iload_n C dX4_bestUse_43 rfl 44 rfl ?_
  obtain rfl := Option.some.inj hR
  exact g_iret C hr hlocks hA (by first | (dsimp only; done) | rfl) (by first | (dsimp only; done) | rfl) dX4_bestUse_44
def f_X4_bestUse_2_L5 (x2 : Int32) (S : (Nat → Nat → Int32) × (Nat → Nat → Int64)) (N_ : Nat) : Nat → Int32 → Int32 → Option (Int32 × Int32)
  | 0, _, _ => none
  | n_ + 1, x3, x4 =>
    if 5 ≤ x4 then
      some (x3, x4)
    else
      (f_X4_netBy_2 S x4 x2 N_).bind fun v5 =>
      (f_X4_netBy_2 S x3 x2 N_).bind fun v6 =>
      if (lg_cmp v5 v6) ≤ 0 then
        f_X4_bestUse_2_L5 x2 S N_ n_ x3 (x4 + 1)
      else
        f_X4_bestUse_2_L5 x2 S N_ n_ x4 (x4 + 1)
set_option maxRecDepth 100000 in
set_option maxHeartbeats 4000000 in
theorem k_X4_bestUse_2_L5 (l : Launch) (g : gE) {p : Program} {e : Env} {s : State} {m : MethodId} {args : Array Value} {below : List Frame} {meth : Method} {c : Code} {Q : State → Prop} {A : Nat → Prop} {b : Nat → Nat}  (C : Cx p s m args c g A cX4_bestUse 5 wA_X4_bestUse RX4) (N_ : Nat) (x2 : Int32) (S : (Nat → Nat → Int32) × (Nat → Nat → Int64)) : ∀ (n_ : Nat) (x3 : Int32) (x4 : Int32) (rv_ : Int32 × Int32), f_X4_bestUse_2_L5 x2 S N_ n_ x3 x4 = some rv_ → (Gm p l e (headSpec wA_X4_bestUse ({ frames := 3, cells := 0, slots := 0, locals := 71 } : Room)).room s m args below meth c Q g A 5 0 0 (wM g b S) [some (.ref (b 0)), some (.ref (b 19)), some (.int x2), some (.int rv_.1), some (.int rv_.2)] [] 43) → Gm p l e (headSpec wA_X4_bestUse ({ frames := 3, cells := 0, slots := 0, locals := 71 } : Room)).room s m args below meth c Q g A 5 0 0 (wM g b S) [some (.ref (b 0)), some (.ref (b 19)), some (.int x2), some (.int x3), some (.int x4)] [] 5 := by
  intro n_
  induction n_ with
  | zero =>
    intro x3 x4 rv_ hR
    simp [f_X4_bestUse_2_L5] at hR
  | succ n_ ih =>
    intro x3 x4 rv_ hR hk
    rw [f_X4_bestUse_2_L5] at hR
    refine g_iload C dX4_bestUse_5 rfl 7 rfl ?_
    refine g_iconst C dX4_bestUse_7 5 ic_5 8 rfl ?_
    refine g_icmp_ge C dX4_bestUse_8 hR 43 11 (by decide) rfl (fun c_8 hR => ?_) (fun c_8 hR => ?_)
    · obtain rfl := Option.some.inj hR
      refine g_lv [some (.ref (b 0)), some (.ref (b 19)), some (.int x2), some (.int x3), some (.int x4)] (lvLe.sm (lvLe.sm (lvLe.sm (lvLe.sm (lvLe.sm lvLe.nil))))) ?_
      exact hk
    · refine g_aload_n C dX4_bestUse_11 rfl 12 rfl ?_
      refine g_aload_n C dX4_bestUse_12 rfl 13 rfl ?_
      refine g_iload C dX4_bestUse_13 rfl 15 rfl ?_
      refine g_iload_n C dX4_bestUse_15 rfl 16 rfl ?_
      obtain ⟨v5, hv5, hR⟩ := opt_b hR
      refine g_callLR C (rn_V C (k_X4_netBy_2 l g b S x4 x2 N_ v5 hv5) (cwV 3 C.1.2.2.2.2 (gdV wl_528 wl_525 wl_526 wl_527 wl_5) rfl rfl rfl hd_X4_netBy ⟨Nat.le_of_ble_eq_true rfl, Nat.le_of_ble_eq_true rfl⟩) 0 rfl rfl _ rg_C rg_n rfl rfl (Nat.le_of_ble_eq_true rfl) ⟨Nat.zero_le _, Nat.zero_le _⟩ dX4_bestUse_16) 19 rfl ?_
      refine g_aload_n C dX4_bestUse_19 rfl 20 rfl ?_
      refine g_aload_n C dX4_bestUse_20 rfl 21 rfl ?_
      refine g_iload_n C dX4_bestUse_21 rfl 22 rfl ?_
      refine g_iload_n C dX4_bestUse_22 rfl 23 rfl ?_
      obtain ⟨v6, hv6, hR⟩ := opt_b hR
      refine g_callLR C (rn_V C (k_X4_netBy_2 l g b S x3 x2 N_ v6 hv6) (cwV 3 C.1.2.2.2.2 (gdV wl_528 wl_525 wl_526 wl_527 wl_5) rfl rfl rfl hd_X4_netBy ⟨Nat.le_of_ble_eq_true rfl, Nat.le_of_ble_eq_true rfl⟩) 0 rfl rfl _ rg_C rg_n rfl rfl (Nat.le_of_ble_eq_true rfl) ⟨Nat.zero_le _, Nat.zero_le _⟩ dX4_bestUse_23) 26 rfl ?_
      refine g_lcmp C dX4_bestUse_26 27 rfl ?_
      refine g_if_le C dX4_bestUse_27 hR 35 30 (by decide) rfl (fun c_27 hR => ?_) (fun c_27 hR => ?_)
      · refine g_iload_n C dX4_bestUse_35 rfl 36 rfl ?_
        refine g_istore_n C dX4_bestUse_36 [_, _, _, _, _] (Nat.le_of_ble_eq_true rfl) rfl rfl 37 rfl ?_
        refine g_iinc C dX4_bestUse_37 rfl 1 ic_1 [_, _, _, _, _] (Nat.le_of_ble_eq_true rfl) rfl rfl 40 rfl ?_
        refine g_goto C dX4_bestUse_40 5 (by decide) ?_
        refine g_lv [some (.ref (b 0)), some (.ref (b 19)), some (.int x2), some (.int x3), some (.int (x4 + 1))] (lvLe.sm (lvLe.sm (lvLe.sm (lvLe.sm (lvLe.sm lvLe.nil))))) ?_
        exact ih _ _ rv_ hR hk
      · refine g_iload C dX4_bestUse_30 rfl 32 rfl ?_
        refine g_goto C dX4_bestUse_32 36 (by decide) ?_
        refine g_istore_n C dX4_bestUse_36 [_, _, _, _, _] (Nat.le_of_ble_eq_true rfl) rfl rfl 37 rfl ?_
        refine g_iinc C dX4_bestUse_37 rfl 1 ic_1 [_, _, _, _, _] (Nat.le_of_ble_eq_true rfl) rfl rfl 40 rfl ?_
        refine g_goto C dX4_bestUse_40 5 (by decide) ?_
        refine g_lv [some (.ref (b 0)), some (.ref (b 19)), some (.int x2), some (.int x4), some (.int (x4 + 1))] (lvLe.sm (lvLe.sm (lvLe.sm (lvLe.sm (lvLe.sm lvLe.nil))))) ?_
        exact ih _ _ rv_ hR hk
def f_X4_bestUse_2 (S : (Nat → Nat → Int32) × (Nat → Nat → Int64)) (p0 : Int32) (N_ : Nat) : Option (Int32) :=
  (f_X4_bestUse_2_L5 p0 S N_ N_ 0 1).bind fun v7 =>
  some v7.1
set_option maxRecDepth 100000 in
set_option maxHeartbeats 4000000 in
theorem k_X4_bestUse_2 (l : Launch) (g : gE) (b : Nat → Nat) (S : (Nat → Nat → Int32) × (Nat → Nat → Int64)) (p0 : Int32) (N_ : Nat) (R_ : Int32) (hR : f_X4_bestUse_2 S p0 N_ = some R_) : FnI l g yX4_bestUse wA_X4_bestUse { frames := 3, cells := 0, slots := 0, locals := 71 } [.ref (b 0), .ref (b 19), .int p0] (wM g b S) R_ (wM g b S) := by
  refine fEntry (As := [.ref (b 0), .ref (b 19), .int p0]) (maxL := 5) (ret := (some .int)) (by decide) rfl [some (.ref (b 0)), some (.ref (b 19)), some (.int p0), none, none] (Nat.le_of_ble_eq_true rfl) (lvInB.to (lvInB.sm (lvInB.sm (lvInB.sm (lvInB.nn (lvInB.nn lvInB.nil)))))) ?_
  intro p e s m below meth c A C hr hlocks hname hA
  have C : Cx p s m _ c g A cX4_bestUse 5 wA_X4_bestUse RX4 := C
  rw [f_X4_bestUse_2] at hR
  refine g_iconst C dX4_bestUse_0 0 ic_0 1 rfl ?_
  refine g_istore_n C dX4_bestUse_1 [_, _, _, _, _] (Nat.le_of_ble_eq_true rfl) rfl rfl 2 rfl ?_
  refine g_iconst C dX4_bestUse_2 1 ic_1 3 rfl ?_
  refine g_istore C dX4_bestUse_3 [_, _, _, _, _] (Nat.le_of_ble_eq_true rfl) rfl rfl 5 rfl ?_
  refine g_lv [some (.ref (b 0)), some (.ref (b 19)), some (.int p0), some (.int 0), some (.int 1)] (lvLe.sm (lvLe.sm (lvLe.sm (lvLe.sm (lvLe.sm lvLe.nil))))) ?_
  obtain ⟨v7, hv7, hR⟩ := opt_b hR
  refine k_X4_bestUse_2_L5 l g C N_ p0 S N_ 0 1 _ hv7 ?_
  refine g_iload_n C dX4_bestUse_43 rfl 44 rfl ?_
  obtain rfl := Option.some.inj hR
  exact g_iret C hr hlocks hA (by first | (dsimp only; done) | rfl) (by first | (dsimp only; done) | rfl) dX4_bestUse_44
theorem hd_X4_bestNet : yX4_bestNet.cls = RX4 ∧ yX4_bestNet.cls ≠ "java/lang/invoke/MethodHandle" ∧ yX4_bestNet.cls ≠ "java/lang/invoke/VarHandle" ∧ (parseMethodDescriptor yX4_bestNet.desc).map (fun d => d.parameters.length) = some 2 := by decide +kernel
def f_X4_bestNet_0 (S : (Nat → Nat → Int32) × (Nat → Nat → Int64)) (p0 : Int32) (N_ : Nat) : Option (Int64) :=
  (f_X4_bestUse_0 S p0 N_).bind fun v1 =>
  (f_X4_netBy_0 S v1 p0 N_).bind fun v2 =>
  some v2
set_option maxRecDepth 100000 in
set_option maxHeartbeats 4000000 in
theorem k_X4_bestNet_0 (l : Launch) (g : gE) (b : Nat → Nat) (S : (Nat → Nat → Int32) × (Nat → Nat → Int64)) (p0 : Int32) (N_ : Nat) (R_ : Int64) (hR : f_X4_bestNet_0 S p0 N_ = some R_) : FnL l g yX4_bestNet wA_X4_bestNet { frames := 4, cells := 0, slots := 0, locals := 95 } [.ref (b 0), .ref (b 17), .int p0] (wM g b S) R_ (wM g b S) := by
  refine fEntry (As := [.ref (b 0), .ref (b 17), .int p0]) (maxL := 3) (ret := (some .long)) (by decide) rfl [some (.ref (b 0)), some (.ref (b 17)), some (.int p0)] (Nat.le_of_ble_eq_true rfl) (lvInB.to (lvInB.sm (lvInB.sm (lvInB.sm lvInB.nil)))) ?_
  intro p e s m below meth c A C hr hlocks hname hA
  have C : Cx p s m _ c g A cX4_bestNet 3 wA_X4_bestNet RX4 := C
  rw [f_X4_bestNet_0] at hR
  refine g_aload_n C dX4_bestNet_0 rfl 1 rfl ?_
  refine g_aload_n C dX4_bestNet_1 rfl 2 rfl ?_
  refine g_aload_n C dX4_bestNet_2 rfl 3 rfl ?_
  refine g_aload_n C dX4_bestNet_3 rfl 4 rfl ?_
  refine g_iload_n C dX4_bestNet_4 rfl 5 rfl ?_
  obtain ⟨v1, hv1, hR⟩ := opt_b hR
  refine g_callIR C (rn_V C (k_X4_bestUse_0 l g b S p0 N_ v1 hv1) (cwV 2 C.1.2.2.2.2 (gdV wl_562 wl_559 wl_560 wl_561 wl_5) rfl rfl rfl hd_X4_bestUse ⟨Nat.le_of_ble_eq_true rfl, Nat.le_of_ble_eq_true rfl⟩) 0 rfl rfl _ rg_C rg_n rfl rfl (Nat.le_of_ble_eq_true rfl) ⟨Nat.zero_le _, Nat.zero_le _⟩ dX4_bestNet_5) 8 rfl ?_
  refine g_iload_n C dX4_bestNet_8 rfl 9 rfl ?_
  obtain ⟨v2, hv2, hR⟩ := opt_b hR
  refine g_callLR C (rn_V C (k_X4_netBy_0 l g b S v1 p0 N_ v2 hv2) (cwV 3 C.1.2.2.2.2 (gdV wl_528 wl_525 wl_526 wl_527 wl_5) rfl rfl rfl hd_X4_netBy ⟨Nat.le_of_ble_eq_true rfl, Nat.le_of_ble_eq_true rfl⟩) 0 rfl rfl _ rg_C rg_n rfl rfl (Nat.le_of_ble_eq_true rfl) ⟨Nat.zero_le _, Nat.zero_le _⟩ dX4_bestNet_9) 12 rfl ?_
  obtain rfl := Option.some.inj hR
  exact g_lret C hr hlocks hA (by first | (dsimp only; done) | rfl) (by first | (dsimp only; done) | rfl) dX4_bestNet_12
def f_X4_bestNet_1 (S : (Nat → Nat → Int32) × (Nat → Nat → Int64)) (p0 : Int32) (N_ : Nat) : Option (Int64) :=
  (f_X4_bestUse_1 S p0 N_).bind fun v1 =>
  (f_X4_netBy_1 S v1 p0 N_).bind fun v2 =>
  some v2
set_option maxRecDepth 100000 in
set_option maxHeartbeats 4000000 in
theorem k_X4_bestNet_1 (l : Launch) (g : gE) (b : Nat → Nat) (S : (Nat → Nat → Int32) × (Nat → Nat → Int64)) (p0 : Int32) (N_ : Nat) (R_ : Int64) (hR : f_X4_bestNet_1 S p0 N_ = some R_) : FnL l g yX4_bestNet wA_X4_bestNet { frames := 4, cells := 0, slots := 0, locals := 95 } [.ref (b 0), .ref (b 18), .int p0] (wM g b S) R_ (wM g b S) := by
  refine fEntry (As := [.ref (b 0), .ref (b 18), .int p0]) (maxL := 3) (ret := (some .long)) (by decide) rfl [some (.ref (b 0)), some (.ref (b 18)), some (.int p0)] (Nat.le_of_ble_eq_true rfl) (lvInB.to (lvInB.sm (lvInB.sm (lvInB.sm lvInB.nil)))) ?_
  intro p e s m below meth c A C hr hlocks hname hA
  have C : Cx p s m _ c g A cX4_bestNet 3 wA_X4_bestNet RX4 := C
  rw [f_X4_bestNet_1] at hR
  refine g_aload_n C dX4_bestNet_0 rfl 1 rfl ?_
  refine g_aload_n C dX4_bestNet_1 rfl 2 rfl ?_
  refine g_aload_n C dX4_bestNet_2 rfl 3 rfl ?_
  refine g_aload_n C dX4_bestNet_3 rfl 4 rfl ?_
  refine g_iload_n C dX4_bestNet_4 rfl 5 rfl ?_
  obtain ⟨v1, hv1, hR⟩ := opt_b hR
  refine g_callIR C (rn_V C (k_X4_bestUse_1 l g b S p0 N_ v1 hv1) (cwV 2 C.1.2.2.2.2 (gdV wl_562 wl_559 wl_560 wl_561 wl_5) rfl rfl rfl hd_X4_bestUse ⟨Nat.le_of_ble_eq_true rfl, Nat.le_of_ble_eq_true rfl⟩) 0 rfl rfl _ rg_C rg_n rfl rfl (Nat.le_of_ble_eq_true rfl) ⟨Nat.zero_le _, Nat.zero_le _⟩ dX4_bestNet_5) 8 rfl ?_
  refine g_iload_n C dX4_bestNet_8 rfl 9 rfl ?_
  obtain ⟨v2, hv2, hR⟩ := opt_b hR
  refine g_callLR C (rn_V C (k_X4_netBy_1 l g b S v1 p0 N_ v2 hv2) (cwV 3 C.1.2.2.2.2 (gdV wl_528 wl_525 wl_526 wl_527 wl_5) rfl rfl rfl hd_X4_netBy ⟨Nat.le_of_ble_eq_true rfl, Nat.le_of_ble_eq_true rfl⟩) 0 rfl rfl _ rg_C rg_n rfl rfl (Nat.le_of_ble_eq_true rfl) ⟨Nat.zero_le _, Nat.zero_le _⟩ dX4_bestNet_9) 12 rfl ?_
  obtain rfl := Option.some.inj hR
  exact g_lret C hr hlocks hA (by first | (dsimp only; done) | rfl) (by first | (dsimp only; done) | rfl) dX4_bestNet_12
def f_X4_bestNet_2 (S : (Nat → Nat → Int32) × (Nat → Nat → Int64)) (p0 : Int32) (N_ : Nat) : Option (Int64) :=
  (f_X4_bestUse_2 S p0 N_).bind fun v1 =>
  (f_X4_netBy_2 S v1 p0 N_).bind fun v2 =>
  some v2
set_option maxRecDepth 100000 in
set_option maxHeartbeats 4000000 in
theorem k_X4_bestNet_2 (l : Launch) (g : gE) (b : Nat → Nat) (S : (Nat → Nat → Int32) × (Nat → Nat → Int64)) (p0 : Int32) (N_ : Nat) (R_ : Int64) (hR : f_X4_bestNet_2 S p0 N_ = some R_) : FnL l g yX4_bestNet wA_X4_bestNet { frames := 4, cells := 0, slots := 0, locals := 95 } [.ref (b 0), .ref (b 19), .int p0] (wM g b S) R_ (wM g b S) := by
  refine fEntry (As := [.ref (b 0), .ref (b 19), .int p0]) (maxL := 3) (ret := (some .long)) (by decide) rfl [some (.ref (b 0)), some (.ref (b 19)), some (.int p0)] (Nat.le_of_ble_eq_true rfl) (lvInB.to (lvInB.sm (lvInB.sm (lvInB.sm lvInB.nil)))) ?_
  intro p e s m below meth c A C hr hlocks hname hA
  have C : Cx p s m _ c g A cX4_bestNet 3 wA_X4_bestNet RX4 := C
  rw [f_X4_bestNet_2] at hR
  refine g_aload_n C dX4_bestNet_0 rfl 1 rfl ?_
  refine g_aload_n C dX4_bestNet_1 rfl 2 rfl ?_
  refine g_aload_n C dX4_bestNet_2 rfl 3 rfl ?_
  refine g_aload_n C dX4_bestNet_3 rfl 4 rfl ?_
  refine g_iload_n C dX4_bestNet_4 rfl 5 rfl ?_
  obtain ⟨v1, hv1, hR⟩ := opt_b hR
  refine g_callIR C (rn_V C (k_X4_bestUse_2 l g b S p0 N_ v1 hv1) (cwV 2 C.1.2.2.2.2 (gdV wl_562 wl_559 wl_560 wl_561 wl_5) rfl rfl rfl hd_X4_bestUse ⟨Nat.le_of_ble_eq_true rfl, Nat.le_of_ble_eq_true rfl⟩) 0 rfl rfl _ rg_C rg_n rfl rfl (Nat.le_of_ble_eq_true rfl) ⟨Nat.zero_le _, Nat.zero_le _⟩ dX4_bestNet_5) 8 rfl ?_
  refine g_iload_n C dX4_bestNet_8 rfl 9 rfl ?_
  obtain ⟨v2, hv2, hR⟩ := opt_b hR
  refine g_callLR C (rn_V C (k_X4_netBy_2 l g b S v1 p0 N_ v2 hv2) (cwV 3 C.1.2.2.2.2 (gdV wl_528 wl_525 wl_526 wl_527 wl_5) rfl rfl rfl hd_X4_netBy ⟨Nat.le_of_ble_eq_true rfl, Nat.le_of_ble_eq_true rfl⟩) 0 rfl rfl _ rg_C rg_n rfl rfl (Nat.le_of_ble_eq_true rfl) ⟨Nat.zero_le _, Nat.zero_le _⟩ dX4_bestNet_9) 12 rfl ?_
  obtain rfl := Option.some.inj hR
  exact g_lret C hr hlocks hA (by first | (dsimp only; done) | rfl) (by first | (dsimp only; done) | rfl) dX4_bestNet_12
theorem hd_X4_says : yX4_says.cls = RX4 ∧ yX4_says.cls ≠ "java/lang/invoke/MethodHandle" ∧ yX4_says.cls ≠ "java/lang/invoke/VarHandle" ∧ (parseMethodDescriptor yX4_says.desc).map (fun d => d.parameters.length) = some 2 := by decide +kernel
def f_X4_says (S : (Nat → Nat → Int32) × (Nat → Nat → Int64)) (p0 : Int32) (p1 : Int32) (N_ : Nat) : Option (Int32 × ((Nat → Nat → Int32) × (Nat → Nat → Int64))) :=
  if (b2i (f_X4_isTest p0)) = 0 then
    (f_X4_no S (-1) N_).bind fun v1 =>
    some (v1.1, v1.2)
  else
    if (b2i (f_X4_isStage p1)) = 0 then
      (f_X4_no S (-1) N_).bind fun v4 =>
      some (v4.1, v4.2)
    else
      if (S.1 0 0) = 0 then
        (f_X4_no S (-3) N_).bind fun v3 =>
        some (v3.1, v3.2)
      else
        (f_X4_saysOff S p0 p1 N_).bind fun v2 =>
        some (v2, S)
set_option maxRecDepth 100000 in
set_option maxHeartbeats 4000000 in
theorem k_X4_says (l : Launch) (g : gE) (b : Nat → Nat) (S : (Nat → Nat → Int32) × (Nat → Nat → Int64)) (p0 : Int32) (p1 : Int32) (N_ : Nat) (R_ : Int32 × ((Nat → Nat → Int32) × (Nat → Nat → Int64))) (hR : f_X4_says S p0 p1 N_ = some R_) : FnI l g yX4_says wA_X4_says { frames := 2, cells := 0, slots := 0, locals := 45 } [.ref (b 0), .int p0, .int p1] (wM g b S) R_.1 (wM g b R_.2) := by
  refine fEntry (As := [.ref (b 0), .int p0, .int p1]) (maxL := 4) (ret := (some .int)) (by decide) rfl [some (.ref (b 0)), some (.int p0), some (.int p1), none] (Nat.le_of_ble_eq_true rfl) (lvInB.to (lvInB.sm (lvInB.sm (lvInB.sm (lvInB.nn lvInB.nil))))) ?_
  intro p e s m below meth c A C hr hlocks hname hA
  have C : Cx p s m _ c g A cX4_says 4 wA_X4_says RX4 := C
  rw [f_X4_says] at hR
  refine g_iload_n C dX4_says_0 rfl 1 rfl ?_
  refine g_callIR C (rn_S C (k_X4_isTest l g p0) (va_cwS 1 C.1.2.2.2.2 (gdS wl_360 wl_358 wl_359 wl_5) rfl rfl rfl hd_X4_isTest.2 ⟨Nat.le_of_ble_eq_true rfl, Nat.le_of_ble_eq_true rfl⟩) [] rfl rfl rfl rfl (Nat.le_of_ble_eq_true rfl) ⟨Nat.zero_le _, Nat.zero_le _⟩ dX4_says_1) 4 rfl ?_
  refine g_if_eq C dX4_says_4 hR 14 7 (by decide) rfl (fun c_4 hR => ?_) (fun c_4 hR => ?_)
  · refine g_iconst C dX4_says_14 (-1) ic_m1 15 rfl ?_
    refine g_goto C dX4_says_15 31 (by decide) ?_
    refine g_istore_n C dX4_says_31 [_, _, _, _] (Nat.le_of_ble_eq_true rfl) rfl rfl 32 rfl ?_
    refine g_iload_n C dX4_says_32 rfl 33 rfl ?_
    refine g_if_eqF C dX4_says_33 (by decide) 44 36 (by decide) rfl ?_
    refine g_aload_n C dX4_says_36 rfl 37 rfl ?_
    refine g_iload_n C dX4_says_37 rfl 38 rfl ?_
    obtain ⟨v1, hv1, hR⟩ := opt_b hR
    refine g_callI C (rn_V C (k_X4_no l g b S (-1) N_ v1 hv1) (cwV 1 C.1.2.2.2.2 (gdV wl_111 wl_108 wl_109 wl_110 wl_5) rfl rfl rfl hd_X4_no ⟨Nat.le_of_ble_eq_true rfl, Nat.le_of_ble_eq_true rfl⟩) 0 rfl rfl _ rg_C rg_n rfl rfl (Nat.le_of_ble_eq_true rfl) ⟨Nat.zero_le _, Nat.zero_le _⟩ dX4_says_38) (wM g b v1.2) (rg_put (wM_len.trans wM_len.symm)) (rg_len (wM_len.trans wM_len.symm)) 41 rfl ?_
    refine g_goto C dX4_says_41 50 (by decide) ?_
    obtain rfl := Option.some.inj hR
    exact g_iret C hr hlocks hA (by first | (dsimp only; done) | rfl) (by first | (dsimp only; done) | rfl) dX4_says_50
  · refine g_iload_n C dX4_says_7 rfl 8 rfl ?_
    refine g_callIR C (rn_S C (k_X4_isStage l g p1) (va_cwS 1 C.1.2.2.2.2 (gdS wl_435 wl_433 wl_434 wl_5) rfl rfl rfl hd_X4_isStage.2 ⟨Nat.le_of_ble_eq_true rfl, Nat.le_of_ble_eq_true rfl⟩) [] rfl rfl rfl rfl (Nat.le_of_ble_eq_true rfl) ⟨Nat.zero_le _, Nat.zero_le _⟩ dX4_says_8) 11 rfl ?_
    refine g_if_ne C dX4_says_11 hR 18 14 (by decide) rfl (fun c_11 hR => ?_) (fun c_11 hR => ?_)
    · refine g_aload_n C dX4_says_18 rfl 19 rfl ?_
      refine g_get (v := .int (S.1 0 0)) C (hiC hiA_4) 0 rfl rfl 9 (by decide) (List.mem_cons_of_mem _ wl_239) rfl rfl dX4_says_19 22 rfl ?_
      refine g_if_ne C dX4_says_22 hR 30 25 (by decide) rfl (fun c_22 hR => ?_) (fun c_22 hR => ?_)
      · refine g_iconst C dX4_says_30 0 ic_0 31 rfl ?_
        refine g_istore_n C dX4_says_31 [_, _, _, _] (Nat.le_of_ble_eq_true rfl) rfl rfl 32 rfl ?_
        refine g_iload_n C dX4_says_32 rfl 33 rfl ?_
        refine g_if_eqT C dX4_says_33 (by decide) 44 (by decide) ?_
        refine g_aload_n C dX4_says_44 rfl 45 rfl ?_
        refine g_iload_n C dX4_says_45 rfl 46 rfl ?_
        refine g_iload_n C dX4_says_46 rfl 47 rfl ?_
        obtain ⟨v2, hv2, hR⟩ := opt_b hR
        refine g_callIR C (rn_V C (k_X4_saysOff l g b S p0 p1 N_ v2 hv2) (cwV 2 C.1.2.2.2.2 (gdV wl_439 wl_436 wl_437 wl_438 wl_5) rfl rfl rfl hd_X4_saysOff ⟨Nat.le_of_ble_eq_true rfl, Nat.le_of_ble_eq_true rfl⟩) 0 rfl rfl _ rg_C rg_n rfl rfl (Nat.le_of_ble_eq_true rfl) ⟨Nat.zero_le _, Nat.zero_le _⟩ dX4_says_47) 50 rfl ?_
        obtain rfl := Option.some.inj hR
        exact g_iret C hr hlocks hA (by first | (dsimp only; done) | rfl) (by first | (dsimp only; done) | rfl) dX4_says_50
      · refine g_bipush C dX4_says_25 (-3) bp_m3 27 rfl ?_
        refine g_goto C dX4_says_27 31 (by decide) ?_
        refine g_istore_n C dX4_says_31 [_, _, _, _] (Nat.le_of_ble_eq_true rfl) rfl rfl 32 rfl ?_
        refine g_iload_n C dX4_says_32 rfl 33 rfl ?_
        refine g_if_eqF C dX4_says_33 (by decide) 44 36 (by decide) rfl ?_
        refine g_aload_n C dX4_says_36 rfl 37 rfl ?_
        refine g_iload_n C dX4_says_37 rfl 38 rfl ?_
        obtain ⟨v3, hv3, hR⟩ := opt_b hR
        refine g_callI C (rn_V C (k_X4_no l g b S (-3) N_ v3 hv3) (cwV 1 C.1.2.2.2.2 (gdV wl_111 wl_108 wl_109 wl_110 wl_5) rfl rfl rfl hd_X4_no ⟨Nat.le_of_ble_eq_true rfl, Nat.le_of_ble_eq_true rfl⟩) 0 rfl rfl _ rg_C rg_n rfl rfl (Nat.le_of_ble_eq_true rfl) ⟨Nat.zero_le _, Nat.zero_le _⟩ dX4_says_38) (wM g b v3.2) (rg_put (wM_len.trans wM_len.symm)) (rg_len (wM_len.trans wM_len.symm)) 41 rfl ?_
        refine g_goto C dX4_says_41 50 (by decide) ?_
        obtain rfl := Option.some.inj hR
        exact g_iret C hr hlocks hA (by first | (dsimp only; done) | rfl) (by first | (dsimp only; done) | rfl) dX4_says_50
    · refine g_iconst C dX4_says_14 (-1) ic_m1 15 rfl ?_
      refine g_goto C dX4_says_15 31 (by decide) ?_
      refine g_istore_n C dX4_says_31 [_, _, _, _] (Nat.le_of_ble_eq_true rfl) rfl rfl 32 rfl ?_
      refine g_iload_n C dX4_says_32 rfl 33 rfl ?_
      refine g_if_eqF C dX4_says_33 (by decide) 44 36 (by decide) rfl ?_
      refine g_aload_n C dX4_says_36 rfl 37 rfl ?_
      refine g_iload_n C dX4_says_37 rfl 38 rfl ?_
      obtain ⟨v4, hv4, hR⟩ := opt_b hR
      refine g_callI C (rn_V C (k_X4_no l g b S (-1) N_ v4 hv4) (cwV 1 C.1.2.2.2.2 (gdV wl_111 wl_108 wl_109 wl_110 wl_5) rfl rfl rfl hd_X4_no ⟨Nat.le_of_ble_eq_true rfl, Nat.le_of_ble_eq_true rfl⟩) 0 rfl rfl _ rg_C rg_n rfl rfl (Nat.le_of_ble_eq_true rfl) ⟨Nat.zero_le _, Nat.zero_le _⟩ dX4_says_38) (wM g b v4.2) (rg_put (wM_len.trans wM_len.symm)) (rg_len (wM_len.trans wM_len.symm)) 41 rfl ?_
      refine g_goto C dX4_says_41 50 (by decide) ?_
      obtain rfl := Option.some.inj hR
      exact g_iret C hr hlocks hA (by first | (dsimp only; done) | rfl) (by first | (dsimp only; done) | rfl) dX4_says_50
theorem hd_X4_thought : yX4_thought.cls = RX4 ∧ yX4_thought.cls ≠ "java/lang/invoke/MethodHandle" ∧ yX4_thought.cls ≠ "java/lang/invoke/VarHandle" ∧ (parseMethodDescriptor yX4_thought.desc).map (fun d => d.parameters.length) = some 1 := by decide +kernel
def f_X4_thought (S : (Nat → Nat → Int32) × (Nat → Nat → Int64)) (p0 : Int32) (N_ : Nat) : Option (Int64 × ((Nat → Nat → Int32) × (Nat → Nat → Int64))) :=
  if (b2i (f_X4_isStage p0)) = 0 then
    (f_X4_lowest S (-1) N_).bind fun v3 =>
    some (v3.1, v3.2)
  else
    if (S.1 0 0) = 0 then
      (f_X4_lowest S (-3) N_).bind fun v2 =>
      some (v2.1, v2.2)
    else
      (f_X4_findThought S N_).bind fun v1 =>
      if p0 < 0 ∨ 5 ≤ (Int32.toNatClampNeg p0) then none else
      some (((v1.2 0) (Int32.toNatClampNeg p0)), v1)
set_option maxRecDepth 100000 in
set_option maxHeartbeats 4000000 in
theorem k_X4_thought (l : Launch) (g : gE) (b : Nat → Nat) (S : (Nat → Nat → Int32) × (Nat → Nat → Int64)) (p0 : Int32) (N_ : Nat) (R_ : Int64 × ((Nat → Nat → Int32) × (Nat → Nat → Int64))) (hR : f_X4_thought S p0 N_ = some R_) : FnL l g yX4_thought wA_X4_thought { frames := 3, cells := 0, slots := 0, locals := 68 } [.ref (b 0), .int p0] (wM g b S) R_.1 (wM g b R_.2) := by
  refine fEntry (As := [.ref (b 0), .int p0]) (maxL := 3) (ret := (some .long)) (by decide) rfl [some (.ref (b 0)), some (.int p0), none] (Nat.le_of_ble_eq_true rfl) (lvInB.to (lvInB.sm (lvInB.sm (lvInB.nn lvInB.nil)))) ?_
  intro p e s m below meth c A C hr hlocks hname hA
  have C : Cx p s m _ c g A cX4_thought 3 wA_X4_thought RX4 := C
  rw [f_X4_thought] at hR
  refine g_iload_n C dX4_thought_0 rfl 1 rfl ?_
  refine g_callIR C (rn_S C (k_X4_isStage l g p0) (va_cwS 1 C.1.2.2.2.2 (gdS wl_435 wl_433 wl_434 wl_5) rfl rfl rfl hd_X4_isStage.2 ⟨Nat.le_of_ble_eq_true rfl, Nat.le_of_ble_eq_true rfl⟩) [] rfl rfl rfl rfl (Nat.le_of_ble_eq_true rfl) ⟨Nat.zero_le _, Nat.zero_le _⟩ dX4_thought_1) 4 rfl ?_
  refine g_if_ne C dX4_thought_4 hR 11 7 (by decide) rfl (fun c_4 hR => ?_) (fun c_4 hR => ?_)
  · refine g_aload_n C dX4_thought_11 rfl 12 rfl ?_
    refine g_get (v := .int (S.1 0 0)) C (hiC hiA_4) 0 rfl rfl 9 (by decide) (List.mem_cons_of_mem _ wl_239) rfl rfl dX4_thought_12 15 rfl ?_
    refine g_if_ne C dX4_thought_15 hR 23 18 (by decide) rfl (fun c_15 hR => ?_) (fun c_15 hR => ?_)
    · refine g_iconst C dX4_thought_23 0 ic_0 24 rfl ?_
      refine g_istore_n C dX4_thought_24 [_, _, _] (Nat.le_of_ble_eq_true rfl) rfl rfl 25 rfl ?_
      refine g_iload_n C dX4_thought_25 rfl 26 rfl ?_
      refine g_if_eqT C dX4_thought_26 (by decide) 35 (by decide) ?_
      refine g_aload_n C dX4_thought_35 rfl 36 rfl ?_
      obtain ⟨v1, hv1, hR⟩ := opt_b hR
      refine g_callV C (rn_V C (k_X4_findThought l g b S N_ v1 hv1) (cwV 0 C.1.2.2.2.2 (gdV wl_467 wl_464 wl_465 wl_466 wl_5) rfl rfl rfl hd_X4_findThought ⟨Nat.le_of_ble_eq_true rfl, Nat.le_of_ble_eq_true rfl⟩) 0 rfl rfl _ rg_C rg_n rfl rfl (Nat.le_of_ble_eq_true rfl) ⟨Nat.zero_le _, Nat.zero_le _⟩ dX4_thought_36) (wM g b v1) (rg_put (wM_len.trans wM_len.symm)) (rg_len (wM_len.trans wM_len.symm)) 39 rfl ?_
      refine g_aload_n C dX4_thought_39 rfl 40 rfl ?_
      refine g_get (v := .ref (b 17)) C (hiC hiA_4) 0 rfl rfl 25 (by decide) (List.mem_cons_of_mem _ wl_80) rfl rfl dX4_thought_40 43 rfl ?_
      refine g_iload_n C dX4_thought_43 rfl 44 rfl ?_
      obtain ⟨h_44, hR⟩ := opt_n hR
      refine g_lald (f := (v1.2 0)) C 17 rfl h_44 dX4_thought_44 45 rfl ?_
      obtain rfl := Option.some.inj hR
      exact g_lret C hr hlocks hA (by first | (dsimp only; done) | rfl) (by first | (dsimp only; done) | rfl) dX4_thought_45
    · refine g_bipush C dX4_thought_18 (-3) bp_m3 20 rfl ?_
      refine g_goto C dX4_thought_20 24 (by decide) ?_
      refine g_istore_n C dX4_thought_24 [_, _, _] (Nat.le_of_ble_eq_true rfl) rfl rfl 25 rfl ?_
      refine g_iload_n C dX4_thought_25 rfl 26 rfl ?_
      refine g_if_eqF C dX4_thought_26 (by decide) 35 29 (by decide) rfl ?_
      refine g_aload_n C dX4_thought_29 rfl 30 rfl ?_
      refine g_iload_n C dX4_thought_30 rfl 31 rfl ?_
      obtain ⟨v2, hv2, hR⟩ := opt_b hR
      refine g_callL C (rn_V C (k_X4_lowest l g b S (-3) N_ v2 hv2) (cwV 1 C.1.2.2.2.2 (gdV wl_462 wl_459 wl_460 wl_461 wl_5) rfl rfl rfl hd_X4_lowest ⟨Nat.le_of_ble_eq_true rfl, Nat.le_of_ble_eq_true rfl⟩) 0 rfl rfl _ rg_C rg_n rfl rfl (Nat.le_of_ble_eq_true rfl) ⟨Nat.zero_le _, Nat.zero_le _⟩ dX4_thought_31) (wM g b v2.2) (rg_put (wM_len.trans wM_len.symm)) (rg_len (wM_len.trans wM_len.symm)) 34 rfl ?_
      obtain rfl := Option.some.inj hR
      exact g_lret C hr hlocks hA (by first | (dsimp only; done) | rfl) (by first | (dsimp only; done) | rfl) dX4_thought_34
  · refine g_iconst C dX4_thought_7 (-1) ic_m1 8 rfl ?_
    refine g_goto C dX4_thought_8 24 (by decide) ?_
    refine g_istore_n C dX4_thought_24 [_, _, _] (Nat.le_of_ble_eq_true rfl) rfl rfl 25 rfl ?_
    refine g_iload_n C dX4_thought_25 rfl 26 rfl ?_
    refine g_if_eqF C dX4_thought_26 (by decide) 35 29 (by decide) rfl ?_
    refine g_aload_n C dX4_thought_29 rfl 30 rfl ?_
    refine g_iload_n C dX4_thought_30 rfl 31 rfl ?_
    obtain ⟨v3, hv3, hR⟩ := opt_b hR
    refine g_callL C (rn_V C (k_X4_lowest l g b S (-1) N_ v3 hv3) (cwV 1 C.1.2.2.2.2 (gdV wl_462 wl_459 wl_460 wl_461 wl_5) rfl rfl rfl hd_X4_lowest ⟨Nat.le_of_ble_eq_true rfl, Nat.le_of_ble_eq_true rfl⟩) 0 rfl rfl _ rg_C rg_n rfl rfl (Nat.le_of_ble_eq_true rfl) ⟨Nat.zero_le _, Nat.zero_le _⟩ dX4_thought_31) (wM g b v3.2) (rg_put (wM_len.trans wM_len.symm)) (rg_len (wM_len.trans wM_len.symm)) 34 rfl ?_
    obtain rfl := Option.some.inj hR
    exact g_lret C hr hlocks hA (by first | (dsimp only; done) | rfl) (by first | (dsimp only; done) | rfl) dX4_thought_34
theorem hd_X4_likely : yX4_likely.cls = RX4 ∧ yX4_likely.cls ≠ "java/lang/invoke/MethodHandle" ∧ yX4_likely.cls ≠ "java/lang/invoke/VarHandle" ∧ (parseMethodDescriptor yX4_likely.desc).map (fun d => d.parameters.length) = some 2 := by decide +kernel
def f_X4_likely (S : (Nat → Nat → Int32) × (Nat → Nat → Int64)) (p0 : Int32) (p1 : Int32) (N_ : Nat) : Option (Int64 × ((Nat → Nat → Int32) × (Nat → Nat → Int64))) :=
  if (b2i (f_X4_isStage p0)) = 0 then
    (f_X4_lowest S (-1) N_).bind fun v6 =>
    some (v6.1, v6.2)
  else
    if (b2i (f_X4_isIn p1 0 1)) = 0 then
      (f_X4_lowest S (-2) N_).bind fun v5 =>
      some (v5.1, v5.2)
    else
      if (S.1 0 0) = 0 then
        (f_X4_lowest S (-3) N_).bind fun v4 =>
        some (v4.1, v4.2)
      else
        (f_X4_findThought S N_).bind fun v1 =>
        if p0 < 0 ∨ 5 ≤ (Int32.toNatClampNeg p0) then none else
        (f_X4_allThought v1 N_).bind fun v2 =>
        (f_X4_partOf ((v1.2 0) (Int32.toNatClampNeg p0)) v2 p1 N_).bind fun v3 =>
        some (v3, v1)
set_option maxRecDepth 100000 in
set_option maxHeartbeats 4000000 in
theorem k_X4_likely (l : Launch) (g : gE) (b : Nat → Nat) (S : (Nat → Nat → Int32) × (Nat → Nat → Int64)) (p0 : Int32) (p1 : Int32) (N_ : Nat) (R_ : Int64 × ((Nat → Nat → Int32) × (Nat → Nat → Int64))) (hR : f_X4_likely S p0 p1 N_ = some R_) : FnL l g yX4_likely wA_X4_likely { frames := 3, cells := 0, slots := 0, locals := 68 } [.ref (b 0), .int p0, .int p1] (wM g b S) R_.1 (wM g b R_.2) := by
  refine fEntry (As := [.ref (b 0), .int p0, .int p1]) (maxL := 4) (ret := (some .long)) (by decide) rfl [some (.ref (b 0)), some (.int p0), some (.int p1), none] (Nat.le_of_ble_eq_true rfl) (lvInB.to (lvInB.sm (lvInB.sm (lvInB.sm (lvInB.nn lvInB.nil))))) ?_
  intro p e s m below meth c A C hr hlocks hname hA
  have C : Cx p s m _ c g A cX4_likely 4 wA_X4_likely RX4 := C
  rw [f_X4_likely] at hR
  refine g_iload_n C dX4_likely_0 rfl 1 rfl ?_
  refine g_callIR C (rn_S C (k_X4_isStage l g p0) (va_cwS 1 C.1.2.2.2.2 (gdS wl_435 wl_433 wl_434 wl_5) rfl rfl rfl hd_X4_isStage.2 ⟨Nat.le_of_ble_eq_true rfl, Nat.le_of_ble_eq_true rfl⟩) [] rfl rfl rfl rfl (Nat.le_of_ble_eq_true rfl) ⟨Nat.zero_le _, Nat.zero_le _⟩ dX4_likely_1) 4 rfl ?_
  refine g_if_ne C dX4_likely_4 hR 11 7 (by decide) rfl (fun c_4 hR => ?_) (fun c_4 hR => ?_)
  · refine g_iload_n C dX4_likely_11 rfl 12 rfl ?_
    refine g_iconst C dX4_likely_12 0 ic_0 13 rfl ?_
    refine g_iconst C dX4_likely_13 1 ic_1 14 rfl ?_
    refine g_callIR C (rn_S C (k_X4_isIn l g p1 0 1) (va_cwS 3 C.1.2.2.2.2 (gdS wl_232 wl_230 wl_231 wl_5) rfl rfl rfl hd_X4_isIn.2 ⟨Nat.le_of_ble_eq_true rfl, Nat.le_of_ble_eq_true rfl⟩) [] rfl rfl rfl rfl (Nat.le_of_ble_eq_true rfl) ⟨Nat.zero_le _, Nat.zero_le _⟩ dX4_likely_14) 17 rfl ?_
    refine g_if_ne C dX4_likely_17 hR 25 20 (by decide) rfl (fun c_17 hR => ?_) (fun c_17 hR => ?_)
    · refine g_aload_n C dX4_likely_25 rfl 26 rfl ?_
      refine g_get (v := .int (S.1 0 0)) C (hiC hiA_4) 0 rfl rfl 9 (by decide) (List.mem_cons_of_mem _ wl_239) rfl rfl dX4_likely_26 29 rfl ?_
      refine g_if_ne C dX4_likely_29 hR 37 32 (by decide) rfl (fun c_29 hR => ?_) (fun c_29 hR => ?_)
      · refine g_iconst C dX4_likely_37 0 ic_0 38 rfl ?_
        refine g_istore_n C dX4_likely_38 [_, _, _, _] (Nat.le_of_ble_eq_true rfl) rfl rfl 39 rfl ?_
        refine g_iload_n C dX4_likely_39 rfl 40 rfl ?_
        refine g_if_eqT C dX4_likely_40 (by decide) 49 (by decide) ?_
        refine g_aload_n C dX4_likely_49 rfl 50 rfl ?_
        obtain ⟨v1, hv1, hR⟩ := opt_b hR
        refine g_callV C (rn_V C (k_X4_findThought l g b S N_ v1 hv1) (cwV 0 C.1.2.2.2.2 (gdV wl_467 wl_464 wl_465 wl_466 wl_5) rfl rfl rfl hd_X4_findThought ⟨Nat.le_of_ble_eq_true rfl, Nat.le_of_ble_eq_true rfl⟩) 0 rfl rfl _ rg_C rg_n rfl rfl (Nat.le_of_ble_eq_true rfl) ⟨Nat.zero_le _, Nat.zero_le _⟩ dX4_likely_50) (wM g b v1) (rg_put (wM_len.trans wM_len.symm)) (rg_len (wM_len.trans wM_len.symm)) 53 rfl ?_
        refine g_aload_n C dX4_likely_53 rfl 54 rfl ?_
        refine g_get (v := .ref (b 17)) C (hiC hiA_4) 0 rfl rfl 25 (by decide) (List.mem_cons_of_mem _ wl_80) rfl rfl dX4_likely_54 57 rfl ?_
        refine g_iload_n C dX4_likely_57 rfl 58 rfl ?_
        obtain ⟨h_58, hR⟩ := opt_n hR
        refine g_lald (f := (v1.2 0)) C 17 rfl h_58 dX4_likely_58 59 rfl ?_
        refine g_aload_n C dX4_likely_59 rfl 60 rfl ?_
        obtain ⟨v2, hv2, hR⟩ := opt_b hR
        refine g_callLR C (rn_V C (k_X4_allThought l g b v1 N_ v2 hv2) (cwV 0 C.1.2.2.2.2 (gdV wl_492 wl_489 wl_490 wl_491 wl_5) rfl rfl rfl hd_X4_allThought ⟨Nat.le_of_ble_eq_true rfl, Nat.le_of_ble_eq_true rfl⟩) 0 rfl rfl _ rg_C rg_n rfl rfl (Nat.le_of_ble_eq_true rfl) ⟨Nat.zero_le _, Nat.zero_le _⟩ dX4_likely_60) 63 rfl ?_
        refine g_iload_n C dX4_likely_63 rfl 64 rfl ?_
        obtain ⟨v3, hv3, hR⟩ := opt_b hR
        refine g_callLR C (rn_S C (k_X4_partOf l g ((v1.2 0) (Int32.toNatClampNeg p0)) v2 p1 N_ v3 hv3) (va_cwS 3 C.1.2.2.2.2 (gdS wl_495 wl_493 wl_494 wl_5) rfl rfl rfl hd_X4_partOf.2 ⟨Nat.le_of_ble_eq_true rfl, Nat.le_of_ble_eq_true rfl⟩) [] rfl rfl rfl rfl (Nat.le_of_ble_eq_true rfl) ⟨Nat.zero_le _, Nat.zero_le _⟩ dX4_likely_64) 67 rfl ?_
        obtain rfl := Option.some.inj hR
        exact g_lret C hr hlocks hA (by first | (dsimp only; done) | rfl) (by first | (dsimp only; done) | rfl) dX4_likely_67
      · refine g_bipush C dX4_likely_32 (-3) bp_m3 34 rfl ?_
        refine g_goto C dX4_likely_34 38 (by decide) ?_
        refine g_istore_n C dX4_likely_38 [_, _, _, _] (Nat.le_of_ble_eq_true rfl) rfl rfl 39 rfl ?_
        refine g_iload_n C dX4_likely_39 rfl 40 rfl ?_
        refine g_if_eqF C dX4_likely_40 (by decide) 49 43 (by decide) rfl ?_
        refine g_aload_n C dX4_likely_43 rfl 44 rfl ?_
        refine g_iload_n C dX4_likely_44 rfl 45 rfl ?_
        obtain ⟨v4, hv4, hR⟩ := opt_b hR
        refine g_callL C (rn_V C (k_X4_lowest l g b S (-3) N_ v4 hv4) (cwV 1 C.1.2.2.2.2 (gdV wl_462 wl_459 wl_460 wl_461 wl_5) rfl rfl rfl hd_X4_lowest ⟨Nat.le_of_ble_eq_true rfl, Nat.le_of_ble_eq_true rfl⟩) 0 rfl rfl _ rg_C rg_n rfl rfl (Nat.le_of_ble_eq_true rfl) ⟨Nat.zero_le _, Nat.zero_le _⟩ dX4_likely_45) (wM g b v4.2) (rg_put (wM_len.trans wM_len.symm)) (rg_len (wM_len.trans wM_len.symm)) 48 rfl ?_
        obtain rfl := Option.some.inj hR
        exact g_lret C hr hlocks hA (by first | (dsimp only; done) | rfl) (by first | (dsimp only; done) | rfl) dX4_likely_48
    · refine g_bipush C dX4_likely_20 (-2) bp_m2 22 rfl ?_
      refine g_goto C dX4_likely_22 38 (by decide) ?_
      refine g_istore_n C dX4_likely_38 [_, _, _, _] (Nat.le_of_ble_eq_true rfl) rfl rfl 39 rfl ?_
      refine g_iload_n C dX4_likely_39 rfl 40 rfl ?_
      refine g_if_eqF C dX4_likely_40 (by decide) 49 43 (by decide) rfl ?_
      refine g_aload_n C dX4_likely_43 rfl 44 rfl ?_
      refine g_iload_n C dX4_likely_44 rfl 45 rfl ?_
      obtain ⟨v5, hv5, hR⟩ := opt_b hR
      refine g_callL C (rn_V C (k_X4_lowest l g b S (-2) N_ v5 hv5) (cwV 1 C.1.2.2.2.2 (gdV wl_462 wl_459 wl_460 wl_461 wl_5) rfl rfl rfl hd_X4_lowest ⟨Nat.le_of_ble_eq_true rfl, Nat.le_of_ble_eq_true rfl⟩) 0 rfl rfl _ rg_C rg_n rfl rfl (Nat.le_of_ble_eq_true rfl) ⟨Nat.zero_le _, Nat.zero_le _⟩ dX4_likely_45) (wM g b v5.2) (rg_put (wM_len.trans wM_len.symm)) (rg_len (wM_len.trans wM_len.symm)) 48 rfl ?_
      obtain rfl := Option.some.inj hR
      exact g_lret C hr hlocks hA (by first | (dsimp only; done) | rfl) (by first | (dsimp only; done) | rfl) dX4_likely_48
  · refine g_iconst C dX4_likely_7 (-1) ic_m1 8 rfl ?_
    refine g_goto C dX4_likely_8 38 (by decide) ?_
    refine g_istore_n C dX4_likely_38 [_, _, _, _] (Nat.le_of_ble_eq_true rfl) rfl rfl 39 rfl ?_
    refine g_iload_n C dX4_likely_39 rfl 40 rfl ?_
    refine g_if_eqF C dX4_likely_40 (by decide) 49 43 (by decide) rfl ?_
    refine g_aload_n C dX4_likely_43 rfl 44 rfl ?_
    refine g_iload_n C dX4_likely_44 rfl 45 rfl ?_
    obtain ⟨v6, hv6, hR⟩ := opt_b hR
    refine g_callL C (rn_V C (k_X4_lowest l g b S (-1) N_ v6 hv6) (cwV 1 C.1.2.2.2.2 (gdV wl_462 wl_459 wl_460 wl_461 wl_5) rfl rfl rfl hd_X4_lowest ⟨Nat.le_of_ble_eq_true rfl, Nat.le_of_ble_eq_true rfl⟩) 0 rfl rfl _ rg_C rg_n rfl rfl (Nat.le_of_ble_eq_true rfl) ⟨Nat.zero_le _, Nat.zero_le _⟩ dX4_likely_45) (wM g b v6.2) (rg_put (wM_len.trans wM_len.symm)) (rg_len (wM_len.trans wM_len.symm)) 48 rfl ?_
    obtain rfl := Option.some.inj hR
    exact g_lret C hr hlocks hA (by first | (dsimp only; done) | rfl) (by first | (dsimp only; done) | rfl) dX4_likely_48
theorem hd_X4_good : yX4_good.cls = RX4 ∧ yX4_good.cls ≠ "java/lang/invoke/MethodHandle" ∧ yX4_good.cls ≠ "java/lang/invoke/VarHandle" ∧ (parseMethodDescriptor yX4_good.desc).map (fun d => d.parameters.length) = some 1 := by decide +kernel
def f_X4_good (S : (Nat → Nat → Int32) × (Nat → Nat → Int64)) (p0 : Int32) (N_ : Nat) : Option (Int64 × ((Nat → Nat → Int32) × (Nat → Nat → Int64))) :=
  if (b2i (f_X4_isIn p0 0 1)) = 0 then
    (f_X4_lowest S (-2) N_).bind fun v5 =>
    some (v5.1, v5.2)
  else
    if (S.1 0 0) = 0 then
      (f_X4_lowest S (-3) N_).bind fun v4 =>
      some (v4.1, v4.2)
    else
      (f_X4_findThought S N_).bind fun v1 =>
      (f_X4_allThought v1 N_).bind fun v2 =>
      (f_X4_partOf (((v1.2 0) (Int32.toNatClampNeg 0)) + ((v1.2 0) (Int32.toNatClampNeg 1))) v2 p0 N_).bind fun v3 =>
      some (v3, v1)
set_option maxRecDepth 100000 in
set_option maxHeartbeats 4000000 in
theorem k_X4_good (l : Launch) (g : gE) (b : Nat → Nat) (S : (Nat → Nat → Int32) × (Nat → Nat → Int64)) (p0 : Int32) (N_ : Nat) (R_ : Int64 × ((Nat → Nat → Int32) × (Nat → Nat → Int64))) (hR : f_X4_good S p0 N_ = some R_) : FnL l g yX4_good wA_X4_good { frames := 3, cells := 0, slots := 0, locals := 68 } [.ref (b 0), .int p0] (wM g b S) R_.1 (wM g b R_.2) := by
  refine fEntry (As := [.ref (b 0), .int p0]) (maxL := 3) (ret := (some .long)) (by decide) rfl [some (.ref (b 0)), some (.int p0), none] (Nat.le_of_ble_eq_true rfl) (lvInB.to (lvInB.sm (lvInB.sm (lvInB.nn lvInB.nil)))) ?_
  intro p e s m below meth c A C hr hlocks hname hA
  have C : Cx p s m _ c g A cX4_good 3 wA_X4_good RX4 := C
  rw [f_X4_good] at hR
  refine g_iload_n C dX4_good_0 rfl 1 rfl ?_
  refine g_iconst C dX4_good_1 0 ic_0 2 rfl ?_
  refine g_iconst C dX4_good_2 1 ic_1 3 rfl ?_
  refine g_callIR C (rn_S C (k_X4_isIn l g p0 0 1) (va_cwS 3 C.1.2.2.2.2 (gdS wl_232 wl_230 wl_231 wl_5) rfl rfl rfl hd_X4_isIn.2 ⟨Nat.le_of_ble_eq_true rfl, Nat.le_of_ble_eq_true rfl⟩) [] rfl rfl rfl rfl (Nat.le_of_ble_eq_true rfl) ⟨Nat.zero_le _, Nat.zero_le _⟩ dX4_good_3) 6 rfl ?_
  refine g_if_ne C dX4_good_6 hR 14 9 (by decide) rfl (fun c_6 hR => ?_) (fun c_6 hR => ?_)
  · refine g_aload_n C dX4_good_14 rfl 15 rfl ?_
    refine g_get (v := .int (S.1 0 0)) C (hiC hiA_4) 0 rfl rfl 9 (by decide) (List.mem_cons_of_mem _ wl_239) rfl rfl dX4_good_15 18 rfl ?_
    refine g_if_ne C dX4_good_18 hR 26 21 (by decide) rfl (fun c_18 hR => ?_) (fun c_18 hR => ?_)
    · refine g_iconst C dX4_good_26 0 ic_0 27 rfl ?_
      refine g_istore_n C dX4_good_27 [_, _, _] (Nat.le_of_ble_eq_true rfl) rfl rfl 28 rfl ?_
      refine g_iload_n C dX4_good_28 rfl 29 rfl ?_
      refine g_if_eqT C dX4_good_29 (by decide) 38 (by decide) ?_
      refine g_aload_n C dX4_good_38 rfl 39 rfl ?_
      obtain ⟨v1, hv1, hR⟩ := opt_b hR
      refine g_callV C (rn_V C (k_X4_findThought l g b S N_ v1 hv1) (cwV 0 C.1.2.2.2.2 (gdV wl_467 wl_464 wl_465 wl_466 wl_5) rfl rfl rfl hd_X4_findThought ⟨Nat.le_of_ble_eq_true rfl, Nat.le_of_ble_eq_true rfl⟩) 0 rfl rfl _ rg_C rg_n rfl rfl (Nat.le_of_ble_eq_true rfl) ⟨Nat.zero_le _, Nat.zero_le _⟩ dX4_good_39) (wM g b v1) (rg_put (wM_len.trans wM_len.symm)) (rg_len (wM_len.trans wM_len.symm)) 42 rfl ?_
      refine g_aload_n C dX4_good_42 rfl 43 rfl ?_
      refine g_get (v := .ref (b 17)) C (hiC hiA_4) 0 rfl rfl 25 (by decide) (List.mem_cons_of_mem _ wl_80) rfl rfl dX4_good_43 46 rfl ?_
      refine g_iconst C dX4_good_46 0 ic_0 47 rfl ?_
      refine g_lald (f := (v1.2 0)) C 17 rfl (by unfold vp_in; decide) dX4_good_47 48 rfl ?_
      refine g_aload_n C dX4_good_48 rfl 49 rfl ?_
      refine g_get (v := .ref (b 17)) C (hiC hiA_4) 0 rfl rfl 25 (by decide) (List.mem_cons_of_mem _ wl_80) rfl rfl dX4_good_49 52 rfl ?_
      refine g_iconst C dX4_good_52 1 ic_1 53 rfl ?_
      refine g_lald (f := (v1.2 0)) C 17 rfl (by unfold vp_in; decide) dX4_good_53 54 rfl ?_
      refine g_ladd C dX4_good_54 55 rfl ?_
      refine g_aload_n C dX4_good_55 rfl 56 rfl ?_
      obtain ⟨v2, hv2, hR⟩ := opt_b hR
      refine g_callLR C (rn_V C (k_X4_allThought l g b v1 N_ v2 hv2) (cwV 0 C.1.2.2.2.2 (gdV wl_492 wl_489 wl_490 wl_491 wl_5) rfl rfl rfl hd_X4_allThought ⟨Nat.le_of_ble_eq_true rfl, Nat.le_of_ble_eq_true rfl⟩) 0 rfl rfl _ rg_C rg_n rfl rfl (Nat.le_of_ble_eq_true rfl) ⟨Nat.zero_le _, Nat.zero_le _⟩ dX4_good_56) 59 rfl ?_
      refine g_iload_n C dX4_good_59 rfl 60 rfl ?_
      obtain ⟨v3, hv3, hR⟩ := opt_b hR
      refine g_callLR C (rn_S C (k_X4_partOf l g (((v1.2 0) (Int32.toNatClampNeg 0)) + ((v1.2 0) (Int32.toNatClampNeg 1))) v2 p0 N_ v3 hv3) (va_cwS 3 C.1.2.2.2.2 (gdS wl_495 wl_493 wl_494 wl_5) rfl rfl rfl hd_X4_partOf.2 ⟨Nat.le_of_ble_eq_true rfl, Nat.le_of_ble_eq_true rfl⟩) [] rfl rfl rfl rfl (Nat.le_of_ble_eq_true rfl) ⟨Nat.zero_le _, Nat.zero_le _⟩ dX4_good_60) 63 rfl ?_
      obtain rfl := Option.some.inj hR
      exact g_lret C hr hlocks hA (by first | (dsimp only; done) | rfl) (by first | (dsimp only; done) | rfl) dX4_good_63
    · refine g_bipush C dX4_good_21 (-3) bp_m3 23 rfl ?_
      refine g_goto C dX4_good_23 27 (by decide) ?_
      refine g_istore_n C dX4_good_27 [_, _, _] (Nat.le_of_ble_eq_true rfl) rfl rfl 28 rfl ?_
      refine g_iload_n C dX4_good_28 rfl 29 rfl ?_
      refine g_if_eqF C dX4_good_29 (by decide) 38 32 (by decide) rfl ?_
      refine g_aload_n C dX4_good_32 rfl 33 rfl ?_
      refine g_iload_n C dX4_good_33 rfl 34 rfl ?_
      obtain ⟨v4, hv4, hR⟩ := opt_b hR
      refine g_callL C (rn_V C (k_X4_lowest l g b S (-3) N_ v4 hv4) (cwV 1 C.1.2.2.2.2 (gdV wl_462 wl_459 wl_460 wl_461 wl_5) rfl rfl rfl hd_X4_lowest ⟨Nat.le_of_ble_eq_true rfl, Nat.le_of_ble_eq_true rfl⟩) 0 rfl rfl _ rg_C rg_n rfl rfl (Nat.le_of_ble_eq_true rfl) ⟨Nat.zero_le _, Nat.zero_le _⟩ dX4_good_34) (wM g b v4.2) (rg_put (wM_len.trans wM_len.symm)) (rg_len (wM_len.trans wM_len.symm)) 37 rfl ?_
      obtain rfl := Option.some.inj hR
      exact g_lret C hr hlocks hA (by first | (dsimp only; done) | rfl) (by first | (dsimp only; done) | rfl) dX4_good_37
  · refine g_bipush C dX4_good_9 (-2) bp_m2 11 rfl ?_
    refine g_goto C dX4_good_11 27 (by decide) ?_
    refine g_istore_n C dX4_good_27 [_, _, _] (Nat.le_of_ble_eq_true rfl) rfl rfl 28 rfl ?_
    refine g_iload_n C dX4_good_28 rfl 29 rfl ?_
    refine g_if_eqF C dX4_good_29 (by decide) 38 32 (by decide) rfl ?_
    refine g_aload_n C dX4_good_32 rfl 33 rfl ?_
    refine g_iload_n C dX4_good_33 rfl 34 rfl ?_
    obtain ⟨v5, hv5, hR⟩ := opt_b hR
    refine g_callL C (rn_V C (k_X4_lowest l g b S (-2) N_ v5 hv5) (cwV 1 C.1.2.2.2.2 (gdV wl_462 wl_459 wl_460 wl_461 wl_5) rfl rfl rfl hd_X4_lowest ⟨Nat.le_of_ble_eq_true rfl, Nat.le_of_ble_eq_true rfl⟩) 0 rfl rfl _ rg_C rg_n rfl rfl (Nat.le_of_ble_eq_true rfl) ⟨Nat.zero_le _, Nat.zero_le _⟩ dX4_good_34) (wM g b v5.2) (rg_put (wM_len.trans wM_len.symm)) (rg_len (wM_len.trans wM_len.symm)) 37 rfl ?_
    obtain rfl := Option.some.inj hR
    exact g_lret C hr hlocks hA (by first | (dsimp only; done) | rfl) (by first | (dsimp only; done) | rfl) dX4_good_37
theorem hd_X4_mean : yX4_mean.cls = RX4 ∧ yX4_mean.cls ≠ "java/lang/invoke/MethodHandle" ∧ yX4_mean.cls ≠ "java/lang/invoke/VarHandle" ∧ (parseMethodDescriptor yX4_mean.desc).map (fun d => d.parameters.length) = some 3 := by decide +kernel
def f_X4_mean (S : (Nat → Nat → Int32) × (Nat → Nat → Int64)) (p0 : Int32) (p1 : Int32) (p2 : Int32) (N_ : Nat) : Option (Int64 × ((Nat → Nat → Int32) × (Nat → Nat → Int64))) :=
  if (b2i (f_X4_isIn p0 0 4)) = 0 then
    (f_X4_lowest S (-1) N_).bind fun v1 =>
    some (v1.1, v1.2)
  else
    if (b2i (f_X4_isWhom p1)) = 0 then
      (f_X4_lowest S (-1) N_).bind fun v8 =>
      some (v8.1, v8.2)
    else
      if (b2i (f_X4_isIn p2 0 1)) = 0 then
        (f_X4_lowest S (-2) N_).bind fun v7 =>
        some (v7.1, v7.2)
      else
        if (S.1 0 0) = 0 then
          (f_X4_lowest S (-3) N_).bind fun v6 =>
          some (v6.1, v6.2)
        else
          (f_X4_findThought S N_).bind fun v2 =>
          (f_X4_netBy_0 v2 p0 p1 N_).bind fun v3 =>
          if (v2.1 0 1) < 0 ∨ 5 ≤ (Int32.toNatClampNeg (v2.1 0 1)) then none else
          (f_X4_allThought v2 N_).bind fun v4 =>
          (f_X4_partOf (v3 * (Int32.toInt64 ((v2.1 4) (Int32.toNatClampNeg (v2.1 0 1))))) v4 p2 N_).bind fun v5 =>
          some (v5, v2)
set_option maxRecDepth 100000 in
set_option maxHeartbeats 4000000 in
theorem k_X4_mean (l : Launch) (g : gE) (b : Nat → Nat) (S : (Nat → Nat → Int32) × (Nat → Nat → Int64)) (p0 : Int32) (p1 : Int32) (p2 : Int32) (N_ : Nat) (R_ : Int64 × ((Nat → Nat → Int32) × (Nat → Nat → Int64))) (hR : f_X4_mean S p0 p1 p2 N_ = some R_) : FnL l g yX4_mean wA_X4_mean { frames := 3, cells := 0, slots := 0, locals := 71 } [.ref (b 0), .int p0, .int p1, .int p2] (wM g b S) R_.1 (wM g b R_.2) := by
  refine fEntry (As := [.ref (b 0), .int p0, .int p1, .int p2]) (maxL := 5) (ret := (some .long)) (by decide) rfl [some (.ref (b 0)), some (.int p0), some (.int p1), some (.int p2), none] (Nat.le_of_ble_eq_true rfl) (lvInB.to (lvInB.sm (lvInB.sm (lvInB.sm (lvInB.sm (lvInB.nn lvInB.nil)))))) ?_
  intro p e s m below meth c A C hr hlocks hname hA
  have C : Cx p s m _ c g A cX4_mean 5 wA_X4_mean RX4 := C
  rw [f_X4_mean] at hR
  refine g_iload_n C dX4_mean_0 rfl 1 rfl ?_
  refine g_iconst C dX4_mean_1 0 ic_0 2 rfl ?_
  refine g_iconst C dX4_mean_2 4 ic_4 3 rfl ?_
  refine g_callIR C (rn_S C (k_X4_isIn l g p0 0 4) (va_cwS 3 C.1.2.2.2.2 (gdS wl_232 wl_230 wl_231 wl_5) rfl rfl rfl hd_X4_isIn.2 ⟨Nat.le_of_ble_eq_true rfl, Nat.le_of_ble_eq_true rfl⟩) [] rfl rfl rfl rfl (Nat.le_of_ble_eq_true rfl) ⟨Nat.zero_le _, Nat.zero_le _⟩ dX4_mean_3) 6 rfl ?_
  refine g_if_eq C dX4_mean_6 hR 16 9 (by decide) rfl (fun c_6 hR => ?_) (fun c_6 hR => ?_)
  · refine g_iconst C dX4_mean_16 (-1) ic_m1 17 rfl ?_
    refine g_goto C dX4_mean_17 47 (by decide) ?_
    refine g_istore C dX4_mean_47 [_, _, _, _, _] (Nat.le_of_ble_eq_true rfl) rfl rfl 49 rfl ?_
    refine g_iload C dX4_mean_49 rfl 51 rfl ?_
    refine g_if_eqF C dX4_mean_51 (by decide) 61 54 (by decide) rfl ?_
    refine g_aload_n C dX4_mean_54 rfl 55 rfl ?_
    refine g_iload C dX4_mean_55 rfl 57 rfl ?_
    obtain ⟨v1, hv1, hR⟩ := opt_b hR
    refine g_callL C (rn_V C (k_X4_lowest l g b S (-1) N_ v1 hv1) (cwV 1 C.1.2.2.2.2 (gdV wl_462 wl_459 wl_460 wl_461 wl_5) rfl rfl rfl hd_X4_lowest ⟨Nat.le_of_ble_eq_true rfl, Nat.le_of_ble_eq_true rfl⟩) 0 rfl rfl _ rg_C rg_n rfl rfl (Nat.le_of_ble_eq_true rfl) ⟨Nat.zero_le _, Nat.zero_le _⟩ dX4_mean_57) (wM g b v1.2) (rg_put (wM_len.trans wM_len.symm)) (rg_len (wM_len.trans wM_len.symm)) 60 rfl ?_
    obtain rfl := Option.some.inj hR
    exact g_lret C hr hlocks hA (by first | (dsimp only; done) | rfl) (by first | (dsimp only; done) | rfl) dX4_mean_60
  · refine g_iload_n C dX4_mean_9 rfl 10 rfl ?_
    refine g_callIR C (rn_S C (k_X4_isWhom l g p1) (va_cwS 1 C.1.2.2.2.2 (gdS wl_524 wl_522 wl_523 wl_5) rfl rfl rfl hd_X4_isWhom.2 ⟨Nat.le_of_ble_eq_true rfl, Nat.le_of_ble_eq_true rfl⟩) [] rfl rfl rfl rfl (Nat.le_of_ble_eq_true rfl) ⟨Nat.zero_le _, Nat.zero_le _⟩ dX4_mean_10) 13 rfl ?_
    refine g_if_ne C dX4_mean_13 hR 20 16 (by decide) rfl (fun c_13 hR => ?_) (fun c_13 hR => ?_)
    · refine g_iload_n C dX4_mean_20 rfl 21 rfl ?_
      refine g_iconst C dX4_mean_21 0 ic_0 22 rfl ?_
      refine g_iconst C dX4_mean_22 1 ic_1 23 rfl ?_
      refine g_callIR C (rn_S C (k_X4_isIn l g p2 0 1) (va_cwS 3 C.1.2.2.2.2 (gdS wl_232 wl_230 wl_231 wl_5) rfl rfl rfl hd_X4_isIn.2 ⟨Nat.le_of_ble_eq_true rfl, Nat.le_of_ble_eq_true rfl⟩) [] rfl rfl rfl rfl (Nat.le_of_ble_eq_true rfl) ⟨Nat.zero_le _, Nat.zero_le _⟩ dX4_mean_23) 26 rfl ?_
      refine g_if_ne C dX4_mean_26 hR 34 29 (by decide) rfl (fun c_26 hR => ?_) (fun c_26 hR => ?_)
      · refine g_aload_n C dX4_mean_34 rfl 35 rfl ?_
        refine g_get (v := .int (S.1 0 0)) C (hiC hiA_4) 0 rfl rfl 9 (by decide) (List.mem_cons_of_mem _ wl_239) rfl rfl dX4_mean_35 38 rfl ?_
        refine g_if_ne C dX4_mean_38 hR 46 41 (by decide) rfl (fun c_38 hR => ?_) (fun c_38 hR => ?_)
        · refine g_iconst C dX4_mean_46 0 ic_0 47 rfl ?_
          refine g_istore C dX4_mean_47 [_, _, _, _, _] (Nat.le_of_ble_eq_true rfl) rfl rfl 49 rfl ?_
          refine g_iload C dX4_mean_49 rfl 51 rfl ?_
          refine g_if_eqT C dX4_mean_51 (by decide) 61 (by decide) ?_
          refine g_aload_n C dX4_mean_61 rfl 62 rfl ?_
          obtain ⟨v2, hv2, hR⟩ := opt_b hR
          refine g_callV C (rn_V C (k_X4_findThought l g b S N_ v2 hv2) (cwV 0 C.1.2.2.2.2 (gdV wl_467 wl_464 wl_465 wl_466 wl_5) rfl rfl rfl hd_X4_findThought ⟨Nat.le_of_ble_eq_true rfl, Nat.le_of_ble_eq_true rfl⟩) 0 rfl rfl _ rg_C rg_n rfl rfl (Nat.le_of_ble_eq_true rfl) ⟨Nat.zero_le _, Nat.zero_le _⟩ dX4_mean_62) (wM g b v2) (rg_put (wM_len.trans wM_len.symm)) (rg_len (wM_len.trans wM_len.symm)) 65 rfl ?_
          refine g_aload_n C dX4_mean_65 rfl 66 rfl ?_
          refine g_aload_n C dX4_mean_66 rfl 67 rfl ?_
          refine g_get (v := .ref (b 17)) C (hiC hiA_4) 0 rfl rfl 25 (by decide) (List.mem_cons_of_mem _ wl_80) rfl rfl dX4_mean_67 70 rfl ?_
          refine g_iload_n C dX4_mean_70 rfl 71 rfl ?_
          refine g_iload_n C dX4_mean_71 rfl 72 rfl ?_
          obtain ⟨v3, hv3, hR⟩ := opt_b hR
          refine g_callLR C (rn_V C (k_X4_netBy_0 l g b v2 p0 p1 N_ v3 hv3) (cwV 3 C.1.2.2.2.2 (gdV wl_528 wl_525 wl_526 wl_527 wl_5) rfl rfl rfl hd_X4_netBy ⟨Nat.le_of_ble_eq_true rfl, Nat.le_of_ble_eq_true rfl⟩) 0 rfl rfl _ rg_C rg_n rfl rfl (Nat.le_of_ble_eq_true rfl) ⟨Nat.zero_le _, Nat.zero_le _⟩ dX4_mean_72) 75 rfl ?_
          refine g_aload_n C dX4_mean_75 rfl 76 rfl ?_
          refine g_get (v := .ref (b 4)) C (hiC hiA_4) 0 rfl rfl 3 (by decide) (List.mem_cons_of_mem _ wl_69) rfl rfl dX4_mean_76 79 rfl ?_
          refine g_aload_n C dX4_mean_79 rfl 80 rfl ?_
          refine g_get (v := .int (v2.1 0 1)) C (hiC hiA_4) 0 rfl rfl 10 (by decide) (List.mem_cons_of_mem _ wl_240) rfl rfl dX4_mean_80 83 rfl ?_
          obtain ⟨h_83, hR⟩ := opt_n hR
          refine g_iald (f := (v2.1 4)) C 4 rfl h_83 dX4_mean_83 84 rfl ?_
          refine g_i2l C dX4_mean_84 85 rfl ?_
          refine g_lmul C dX4_mean_85 86 rfl ?_
          refine g_aload_n C dX4_mean_86 rfl 87 rfl ?_
          obtain ⟨v4, hv4, hR⟩ := opt_b hR
          refine g_callLR C (rn_V C (k_X4_allThought l g b v2 N_ v4 hv4) (cwV 0 C.1.2.2.2.2 (gdV wl_492 wl_489 wl_490 wl_491 wl_5) rfl rfl rfl hd_X4_allThought ⟨Nat.le_of_ble_eq_true rfl, Nat.le_of_ble_eq_true rfl⟩) 0 rfl rfl _ rg_C rg_n rfl rfl (Nat.le_of_ble_eq_true rfl) ⟨Nat.zero_le _, Nat.zero_le _⟩ dX4_mean_87) 90 rfl ?_
          refine g_iload_n C dX4_mean_90 rfl 91 rfl ?_
          obtain ⟨v5, hv5, hR⟩ := opt_b hR
          refine g_callLR C (rn_S C (k_X4_partOf l g (v3 * (Int32.toInt64 ((v2.1 4) (Int32.toNatClampNeg (v2.1 0 1))))) v4 p2 N_ v5 hv5) (va_cwS 3 C.1.2.2.2.2 (gdS wl_495 wl_493 wl_494 wl_5) rfl rfl rfl hd_X4_partOf.2 ⟨Nat.le_of_ble_eq_true rfl, Nat.le_of_ble_eq_true rfl⟩) [] rfl rfl rfl rfl (Nat.le_of_ble_eq_true rfl) ⟨Nat.zero_le _, Nat.zero_le _⟩ dX4_mean_91) 94 rfl ?_
          obtain rfl := Option.some.inj hR
          exact g_lret C hr hlocks hA (by first | (dsimp only; done) | rfl) (by first | (dsimp only; done) | rfl) dX4_mean_94
        · refine g_bipush C dX4_mean_41 (-3) bp_m3 43 rfl ?_
          refine g_goto C dX4_mean_43 47 (by decide) ?_
          refine g_istore C dX4_mean_47 [_, _, _, _, _] (Nat.le_of_ble_eq_true rfl) rfl rfl 49 rfl ?_
          refine g_iload C dX4_mean_49 rfl 51 rfl ?_
          refine g_if_eqF C dX4_mean_51 (by decide) 61 54 (by decide) rfl ?_
          refine g_aload_n C dX4_mean_54 rfl 55 rfl ?_
          refine g_iload C dX4_mean_55 rfl 57 rfl ?_
          obtain ⟨v6, hv6, hR⟩ := opt_b hR
          refine g_callL C (rn_V C (k_X4_lowest l g b S (-3) N_ v6 hv6) (cwV 1 C.1.2.2.2.2 (gdV wl_462 wl_459 wl_460 wl_461 wl_5) rfl rfl rfl hd_X4_lowest ⟨Nat.le_of_ble_eq_true rfl, Nat.le_of_ble_eq_true rfl⟩) 0 rfl rfl _ rg_C rg_n rfl rfl (Nat.le_of_ble_eq_true rfl) ⟨Nat.zero_le _, Nat.zero_le _⟩ dX4_mean_57) (wM g b v6.2) (rg_put (wM_len.trans wM_len.symm)) (rg_len (wM_len.trans wM_len.symm)) 60 rfl ?_
          obtain rfl := Option.some.inj hR
          exact g_lret C hr hlocks hA (by first | (dsimp only; done) | rfl) (by first | (dsimp only; done) | rfl) dX4_mean_60
      · refine g_bipush C dX4_mean_29 (-2) bp_m2 31 rfl ?_
        refine g_goto C dX4_mean_31 47 (by decide) ?_
        refine g_istore C dX4_mean_47 [_, _, _, _, _] (Nat.le_of_ble_eq_true rfl) rfl rfl 49 rfl ?_
        refine g_iload C dX4_mean_49 rfl 51 rfl ?_
        refine g_if_eqF C dX4_mean_51 (by decide) 61 54 (by decide) rfl ?_
        refine g_aload_n C dX4_mean_54 rfl 55 rfl ?_
        refine g_iload C dX4_mean_55 rfl 57 rfl ?_
        obtain ⟨v7, hv7, hR⟩ := opt_b hR
        refine g_callL C (rn_V C (k_X4_lowest l g b S (-2) N_ v7 hv7) (cwV 1 C.1.2.2.2.2 (gdV wl_462 wl_459 wl_460 wl_461 wl_5) rfl rfl rfl hd_X4_lowest ⟨Nat.le_of_ble_eq_true rfl, Nat.le_of_ble_eq_true rfl⟩) 0 rfl rfl _ rg_C rg_n rfl rfl (Nat.le_of_ble_eq_true rfl) ⟨Nat.zero_le _, Nat.zero_le _⟩ dX4_mean_57) (wM g b v7.2) (rg_put (wM_len.trans wM_len.symm)) (rg_len (wM_len.trans wM_len.symm)) 60 rfl ?_
        obtain rfl := Option.some.inj hR
        exact g_lret C hr hlocks hA (by first | (dsimp only; done) | rfl) (by first | (dsimp only; done) | rfl) dX4_mean_60
    · refine g_iconst C dX4_mean_16 (-1) ic_m1 17 rfl ?_
      refine g_goto C dX4_mean_17 47 (by decide) ?_
      refine g_istore C dX4_mean_47 [_, _, _, _, _] (Nat.le_of_ble_eq_true rfl) rfl rfl 49 rfl ?_
      refine g_iload C dX4_mean_49 rfl 51 rfl ?_
      refine g_if_eqF C dX4_mean_51 (by decide) 61 54 (by decide) rfl ?_
      refine g_aload_n C dX4_mean_54 rfl 55 rfl ?_
      refine g_iload C dX4_mean_55 rfl 57 rfl ?_
      obtain ⟨v8, hv8, hR⟩ := opt_b hR
      refine g_callL C (rn_V C (k_X4_lowest l g b S (-1) N_ v8 hv8) (cwV 1 C.1.2.2.2.2 (gdV wl_462 wl_459 wl_460 wl_461 wl_5) rfl rfl rfl hd_X4_lowest ⟨Nat.le_of_ble_eq_true rfl, Nat.le_of_ble_eq_true rfl⟩) 0 rfl rfl _ rg_C rg_n rfl rfl (Nat.le_of_ble_eq_true rfl) ⟨Nat.zero_le _, Nat.zero_le _⟩ dX4_mean_57) (wM g b v8.2) (rg_put (wM_len.trans wM_len.symm)) (rg_len (wM_len.trans wM_len.symm)) 60 rfl ?_
      obtain rfl := Option.some.inj hR
      exact g_lret C hr hlocks hA (by first | (dsimp only; done) | rfl) (by first | (dsimp only; done) | rfl) dX4_mean_60
theorem hd_X4_notBest : yX4_notBest.cls = RX4 ∧ yX4_notBest.cls ≠ "java/lang/invoke/MethodHandle" ∧ yX4_notBest.cls ≠ "java/lang/invoke/VarHandle" ∧ (parseMethodDescriptor yX4_notBest.desc).map (fun d => d.parameters.length) = some 1 := by decide +kernel
def f_X4_notBest (S : (Nat → Nat → Int32) × (Nat → Nat → Int64)) (p0 : Int32) : Int32 :=
  if (b2i (f_X4_isWhom p0)) = 0 then
    (-1)
  else
    if (S.1 0 0) = 0 then
      (-3)
    else
      0
set_option maxRecDepth 100000 in
set_option maxHeartbeats 4000000 in
theorem k_X4_notBest (l : Launch) (g : gE) (b : Nat → Nat) (S : (Nat → Nat → Int32) × (Nat → Nat → Int64)) (p0 : Int32) : FnI l g yX4_notBest wA_X4_notBest { frames := 1, cells := 0, slots := 0, locals := 20 } [.ref (b 0), .int p0] (wM g b S) (f_X4_notBest S p0) (wM g b S) := by
  generalize hR : f_X4_notBest S p0 = R_
  refine fEntry (As := [.ref (b 0), .int p0]) (maxL := 2) (ret := (some .int)) (by decide) rfl [some (.ref (b 0)), some (.int p0)] (Nat.le_of_ble_eq_true rfl) (lvInB.to (lvInB.sm (lvInB.sm lvInB.nil))) ?_
  intro p e s m below meth c A C hr hlocks hname hA
  have C : Cx p s m _ c g A cX4_notBest 2 wA_X4_notBest RX4 := C
  rw [f_X4_notBest] at hR
  refine g_iload_n C dX4_notBest_0 rfl 1 rfl ?_
  refine g_callIR C (rn_S C (k_X4_isWhom l g p0) (va_cwS 1 C.1.2.2.2.2 (gdS wl_524 wl_522 wl_523 wl_5) rfl rfl rfl hd_X4_isWhom.2 ⟨Nat.le_of_ble_eq_true rfl, Nat.le_of_ble_eq_true rfl⟩) [] rfl rfl rfl rfl (Nat.le_of_ble_eq_true rfl) ⟨Nat.zero_le _, Nat.zero_le _⟩ dX4_notBest_1) 4 rfl ?_
  refine g_if_ne C dX4_notBest_4 hR 11 7 (by decide) rfl (fun c_4 hR => ?_) (fun c_4 hR => ?_)
  · refine g_aload_n C dX4_notBest_11 rfl 12 rfl ?_
    refine g_get (v := .int (S.1 0 0)) C (hiC hiA_4) 0 rfl rfl 9 (by decide) (List.mem_cons_of_mem _ wl_239) rfl rfl dX4_notBest_12 15 rfl ?_
    refine g_if_ne C dX4_notBest_15 hR 23 18 (by decide) rfl (fun c_15 hR => ?_) (fun c_15 hR => ?_)
    · refine g_iconst C dX4_notBest_23 0 ic_0 24 rfl ?_
      subst hR
      exact g_iret C hr hlocks hA (by first | (dsimp only; done) | rfl) (by first | (dsimp only; done) | rfl) dX4_notBest_24
    · refine g_bipush C dX4_notBest_18 (-3) bp_m3 20 rfl ?_
      refine g_goto C dX4_notBest_20 24 (by decide) ?_
      subst hR
      exact g_iret C hr hlocks hA (by first | (dsimp only; done) | rfl) (by first | (dsimp only; done) | rfl) dX4_notBest_24
  · refine g_iconst C dX4_notBest_7 (-1) ic_m1 8 rfl ?_
    refine g_goto C dX4_notBest_8 24 (by decide) ?_
    subst hR
    exact g_iret C hr hlocks hA (by first | (dsimp only; done) | rfl) (by first | (dsimp only; done) | rfl) dX4_notBest_24
theorem hd_X4_best : yX4_best.cls = RX4 ∧ yX4_best.cls ≠ "java/lang/invoke/MethodHandle" ∧ yX4_best.cls ≠ "java/lang/invoke/VarHandle" ∧ (parseMethodDescriptor yX4_best.desc).map (fun d => d.parameters.length) = some 1 := by decide +kernel
def f_X4_best (S : (Nat → Nat → Int32) × (Nat → Nat → Int64)) (p0 : Int32) (N_ : Nat) : Option (Int32 × ((Nat → Nat → Int32) × (Nat → Nat → Int64))) :=
  if (f_X4_notBest S p0) = 0 then
    (f_X4_findThought S N_).bind fun v1 =>
    (f_X4_bestUse_0 v1 p0 N_).bind fun v2 =>
    some (v2, v1)
  else
    (f_X4_no S (f_X4_notBest S p0) N_).bind fun v3 =>
    some (v3.1, v3.2)
set_option maxRecDepth 100000 in
set_option maxHeartbeats 4000000 in
theorem k_X4_best (l : Launch) (g : gE) (b : Nat → Nat) (S : (Nat → Nat → Int32) × (Nat → Nat → Int64)) (p0 : Int32) (N_ : Nat) (R_ : Int32 × ((Nat → Nat → Int32) × (Nat → Nat → Int64))) (hR : f_X4_best S p0 N_ = some R_) : FnI l g yX4_best wA_X4_best { frames := 4, cells := 0, slots := 0, locals := 95 } [.ref (b 0), .int p0] (wM g b S) R_.1 (wM g b R_.2) := by
  refine fEntry (As := [.ref (b 0), .int p0]) (maxL := 3) (ret := (some .int)) (by decide) rfl [some (.ref (b 0)), some (.int p0), none] (Nat.le_of_ble_eq_true rfl) (lvInB.to (lvInB.sm (lvInB.sm (lvInB.nn lvInB.nil)))) ?_
  intro p e s m below meth c A C hr hlocks hname hA
  have C : Cx p s m _ c g A cX4_best 3 wA_X4_best RX4 := C
  rw [f_X4_best] at hR
  refine g_aload_n C dX4_best_0 rfl 1 rfl ?_
  refine g_iload_n C dX4_best_1 rfl 2 rfl ?_
  refine g_callIR C (rn_V C (k_X4_notBest l g b S p0) (cwV 1 C.1.2.2.2.2 (gdV wl_558 wl_555 wl_556 wl_557 wl_5) rfl rfl rfl hd_X4_notBest ⟨Nat.le_of_ble_eq_true rfl, Nat.le_of_ble_eq_true rfl⟩) 0 rfl rfl _ rg_C rg_n rfl rfl (Nat.le_of_ble_eq_true rfl) ⟨Nat.zero_le _, Nat.zero_le _⟩ dX4_best_2) 5 rfl ?_
  refine g_istore_n C dX4_best_5 [_, _, _] (Nat.le_of_ble_eq_true rfl) rfl rfl 6 rfl ?_
  refine g_iload_n C dX4_best_6 rfl 7 rfl ?_
  refine g_if_eq C dX4_best_7 hR 16 10 (by decide) rfl (fun c_7 hR => ?_) (fun c_7 hR => ?_)
  · refine g_aload_n C dX4_best_16 rfl 17 rfl ?_
    obtain ⟨v1, hv1, hR⟩ := opt_b hR
    refine g_callV C (rn_V C (k_X4_findThought l g b S N_ v1 hv1) (cwV 0 C.1.2.2.2.2 (gdV wl_467 wl_464 wl_465 wl_466 wl_5) rfl rfl rfl hd_X4_findThought ⟨Nat.le_of_ble_eq_true rfl, Nat.le_of_ble_eq_true rfl⟩) 0 rfl rfl _ rg_C rg_n rfl rfl (Nat.le_of_ble_eq_true rfl) ⟨Nat.zero_le _, Nat.zero_le _⟩ dX4_best_17) (wM g b v1) (rg_put (wM_len.trans wM_len.symm)) (rg_len (wM_len.trans wM_len.symm)) 20 rfl ?_
    refine g_aload_n C dX4_best_20 rfl 21 rfl ?_
    refine g_aload_n C dX4_best_21 rfl 22 rfl ?_
    refine g_get (v := .ref (b 17)) C (hiC hiA_4) 0 rfl rfl 25 (by decide) (List.mem_cons_of_mem _ wl_80) rfl rfl dX4_best_22 25 rfl ?_
    refine g_iload_n C dX4_best_25 rfl 26 rfl ?_
    obtain ⟨v2, hv2, hR⟩ := opt_b hR
    refine g_callIR C (rn_V C (k_X4_bestUse_0 l g b v1 p0 N_ v2 hv2) (cwV 2 C.1.2.2.2.2 (gdV wl_562 wl_559 wl_560 wl_561 wl_5) rfl rfl rfl hd_X4_bestUse ⟨Nat.le_of_ble_eq_true rfl, Nat.le_of_ble_eq_true rfl⟩) 0 rfl rfl _ rg_C rg_n rfl rfl (Nat.le_of_ble_eq_true rfl) ⟨Nat.zero_le _, Nat.zero_le _⟩ dX4_best_26) 29 rfl ?_
    obtain rfl := Option.some.inj hR
    exact g_iret C hr hlocks hA (by first | (dsimp only; done) | rfl) (by first | (dsimp only; done) | rfl) dX4_best_29
  · refine g_aload_n C dX4_best_10 rfl 11 rfl ?_
    refine g_iload_n C dX4_best_11 rfl 12 rfl ?_
    obtain ⟨v3, hv3, hR⟩ := opt_b hR
    refine g_callI C (rn_V C (k_X4_no l g b S (f_X4_notBest S p0) N_ v3 hv3) (cwV 1 C.1.2.2.2.2 (gdV wl_111 wl_108 wl_109 wl_110 wl_5) rfl rfl rfl hd_X4_no ⟨Nat.le_of_ble_eq_true rfl, Nat.le_of_ble_eq_true rfl⟩) 0 rfl rfl _ rg_C rg_n rfl rfl (Nat.le_of_ble_eq_true rfl) ⟨Nat.zero_le _, Nat.zero_le _⟩ dX4_best_12) (wM g b v3.2) (rg_put (wM_len.trans wM_len.symm)) (rg_len (wM_len.trans wM_len.symm)) 15 rfl ?_
    obtain rfl := Option.some.inj hR
    exact g_iret C hr hlocks hA (by first | (dsimp only; done) | rfl) (by first | (dsimp only; done) | rfl) dX4_best_15
theorem hd_X4_harmParts : yX4_harmParts.cls = RX4 ∧ yX4_harmParts.cls ≠ "java/lang/invoke/MethodHandle" ∧ yX4_harmParts.cls ≠ "java/lang/invoke/VarHandle" ∧ (parseMethodDescriptor yX4_harmParts.desc).map (fun d => d.parameters.length) = some 1 := by decide +kernel
def f_X4_harmParts_L5 (x1 : Int32) (S : (Nat → Nat → Int32) × (Nat → Nat → Int64)) (N_ : Nat) : Nat → Int64 → Int32 → Option (Int64 × Int32)
  | 0, _, _ => none
  | n_ + 1, x2, x4 =>
    if 5 ≤ x4 then
      some (x2, x4)
    else
      if (f_X4_harmOf x1 x4) ≤ 0 then
        f_X4_harmParts_L5 x1 S N_ n_ (x2 + 0) (x4 + 1)
      else
        if x4 < 0 ∨ 5 ≤ (Int32.toNatClampNeg x4) then none else
        f_X4_harmParts_L5 x1 S N_ n_ (x2 + ((S.2 0) (Int32.toNatClampNeg x4))) (x4 + 1)
set_option maxRecDepth 100000 in
set_option maxHeartbeats 4000000 in
theorem k_X4_harmParts_L5 (l : Launch) (g : gE) {p : Program} {e : Env} {s : State} {m : MethodId} {args : Array Value} {below : List Frame} {meth : Method} {c : Code} {Q : State → Prop} {A : Nat → Prop} {b : Nat → Nat}  (C : Cx p s m args c g A cX4_harmParts 5 wA_X4_harmParts RX4) (N_ : Nat) (x1 : Int32) (S : (Nat → Nat → Int32) × (Nat → Nat → Int64)) : ∀ (n_ : Nat) (x2 : Int64) (x4 : Int32) (rv_ : Int64 × Int32), f_X4_harmParts_L5 x1 S N_ n_ x2 x4 = some rv_ → (Gm p l e (headSpec wA_X4_harmParts ({ frames := 1, cells := 0, slots := 0, locals := 22 } : Room)).room s m args below meth c Q g A 5 0 0 (wM g b S) [some (.ref (b 0)), some (.int x1), some (.long rv_.1), none, some (.int rv_.2)] [] 40) → Gm p l e (headSpec wA_X4_harmParts ({ frames := 1, cells := 0, slots := 0, locals := 22 } : Room)).room s m args below meth c Q g A 5 0 0 (wM g b S) [some (.ref (b 0)), some (.int x1), some (.long x2), none, some (.int x4)] [] 5 := by
  intro n_
  induction n_ with
  | zero =>
    intro x2 x4 rv_ hR
    simp [f_X4_harmParts_L5] at hR
  | succ n_ ih =>
    intro x2 x4 rv_ hR hk
    rw [f_X4_harmParts_L5] at hR
    refine g_iload C dX4_harmParts_5 rfl 7 rfl ?_
    refine g_iconst C dX4_harmParts_7 5 ic_5 8 rfl ?_
    refine g_icmp_ge C dX4_harmParts_8 hR 40 11 (by decide) rfl (fun c_8 hR => ?_) (fun c_8 hR => ?_)
    · obtain rfl := Option.some.inj hR
      refine g_lv [some (.ref (b 0)), some (.int x1), some (.long x2), none, some (.int x4)] (lvLe.sm (lvLe.sm (lvLe.sm (lvLe.nn (lvLe.sm lvLe.nil))))) ?_
      exact hk
    · refine g_lload_n C dX4_harmParts_11 rfl 12 rfl ?_
      refine g_iload_n C dX4_harmParts_12 rfl 13 rfl ?_
      refine g_iload C dX4_harmParts_13 rfl 15 rfl ?_
      refine g_callIR C (rn_S C (k_X4_harmOf l g x1 x4) (va_cwS 2 C.1.2.2.2.2 (gdS wl_539 wl_537 wl_538 wl_5) rfl rfl rfl hd_X4_harmOf.2 ⟨Nat.le_of_ble_eq_true rfl, Nat.le_of_ble_eq_true rfl⟩) [] rfl rfl rfl rfl (Nat.le_of_ble_eq_true rfl) ⟨Nat.zero_le _, Nat.zero_le _⟩ dX4_harmParts_15) 18 rfl ?_
      refine g_if_le C dX4_harmParts_18 hR 31 21 (by decide) rfl (fun c_18 hR => ?_) (fun c_18 hR => ?_)
      · refine g_lconst C dX4_harmParts_31 0 (by decide) 32 rfl ?_
        refine g_ladd C dX4_harmParts_32 33 rfl ?_
        refine g_lstore_n C dX4_harmParts_33 [_, _, _, _, _] (Nat.le_of_ble_eq_true rfl) rfl rfl 34 rfl ?_
        refine g_iinc C dX4_harmParts_34 rfl 1 ic_1 [_, _, _, _, _] (Nat.le_of_ble_eq_true rfl) rfl rfl 37 rfl ?_
        refine g_goto C dX4_harmParts_37 5 (by decide) ?_
        refine g_lv [some (.ref (b 0)), some (.int x1), some (.long (x2 + 0)), none, some (.int (x4 + 1))] (lvLe.sm (lvLe.sm (lvLe.sm (lvLe.nn (lvLe.sm lvLe.nil))))) ?_
        exact ih _ _ rv_ hR hk
      · refine g_aload_n C dX4_harmParts_21 rfl 22 rfl ?_
        refine g_get (v := .ref (b 17)) C (hiC hiA_4) 0 rfl rfl 25 (by decide) (List.mem_cons_of_mem _ wl_80) rfl rfl dX4_harmParts_22 25 rfl ?_
        refine g_iload C dX4_harmParts_25 rfl 27 rfl ?_
        obtain ⟨h_27, hR⟩ := opt_n hR
        refine g_lald (f := (S.2 0)) C 17 rfl h_27 dX4_harmParts_27 28 rfl ?_
        refine g_goto C dX4_harmParts_28 32 (by decide) ?_
        refine g_ladd C dX4_harmParts_32 33 rfl ?_
        refine g_lstore_n C dX4_harmParts_33 [_, _, _, _, _] (Nat.le_of_ble_eq_true rfl) rfl rfl 34 rfl ?_
        refine g_iinc C dX4_harmParts_34 rfl 1 ic_1 [_, _, _, _, _] (Nat.le_of_ble_eq_true rfl) rfl rfl 37 rfl ?_
        refine g_goto C dX4_harmParts_37 5 (by decide) ?_
        refine g_lv [some (.ref (b 0)), some (.int x1), some (.long (x2 + ((S.2 0) (Int32.toNatClampNeg x4)))), none, some (.int (x4 + 1))] (lvLe.sm (lvLe.sm (lvLe.sm (lvLe.nn (lvLe.sm lvLe.nil))))) ?_
        exact ih _ _ rv_ hR hk
def f_X4_harmParts (S : (Nat → Nat → Int32) × (Nat → Nat → Int64)) (p0 : Int32) (N_ : Nat) : Option (Int64) :=
  (f_X4_harmParts_L5 p0 S N_ N_ 0 0).bind fun v1 =>
  some v1.1
set_option maxRecDepth 100000 in
set_option maxHeartbeats 4000000 in
theorem k_X4_harmParts (l : Launch) (g : gE) (b : Nat → Nat) (S : (Nat → Nat → Int32) × (Nat → Nat → Int64)) (p0 : Int32) (N_ : Nat) (R_ : Int64) (hR : f_X4_harmParts S p0 N_ = some R_) : FnL l g yX4_harmParts wA_X4_harmParts { frames := 1, cells := 0, slots := 0, locals := 22 } [.ref (b 0), .int p0] (wM g b S) R_ (wM g b S) := by
  refine fEntry (As := [.ref (b 0), .int p0]) (maxL := 5) (ret := (some .long)) (by decide) rfl [some (.ref (b 0)), some (.int p0), none, none, none] (Nat.le_of_ble_eq_true rfl) (lvInB.to (lvInB.sm (lvInB.sm (lvInB.nn (lvInB.nn (lvInB.nn lvInB.nil)))))) ?_
  intro p e s m below meth c A C hr hlocks hname hA
  have C : Cx p s m _ c g A cX4_harmParts 5 wA_X4_harmParts RX4 := C
  rw [f_X4_harmParts] at hR
  refine g_lconst C dX4_harmParts_0 0 (by decide) 1 rfl ?_
  refine g_lstore_n C dX4_harmParts_1 [_, _, _, _, _] (Nat.le_of_ble_eq_true rfl) rfl rfl 2 rfl ?_
  refine g_iconst C dX4_harmParts_2 0 ic_0 3 rfl ?_
  refine g_istore C dX4_harmParts_3 [_, _, _, _, _] (Nat.le_of_ble_eq_true rfl) rfl rfl 5 rfl ?_
  refine g_lv [some (.ref (b 0)), some (.int p0), some (.long 0), none, some (.int 0)] (lvLe.sm (lvLe.sm (lvLe.sm (lvLe.nn (lvLe.sm lvLe.nil))))) ?_
  obtain ⟨v1, hv1, hR⟩ := opt_b hR
  refine k_X4_harmParts_L5 l g C N_ p0 S N_ 0 0 _ hv1 ?_
  refine g_lload_n C dX4_harmParts_40 rfl 41 rfl ?_
  obtain rfl := Option.some.inj hR
  exact g_lret C hr hlocks hA (by first | (dsimp only; done) | rfl) (by first | (dsimp only; done) | rfl) dX4_harmParts_41
theorem hd_X4_sure : yX4_sure.cls = RX4 ∧ yX4_sure.cls ≠ "java/lang/invoke/MethodHandle" ∧ yX4_sure.cls ≠ "java/lang/invoke/VarHandle" ∧ (parseMethodDescriptor yX4_sure.desc).map (fun d => d.parameters.length) = some 1 := by decide +kernel
def f_X4_sure_L25 (S : (Nat → Nat → Int32) × (Nat → Nat → Int64)) (N_ : Nat) : Nat → Int32 → Int32 → Option (Int32 × Int32)
  | 0, _, _ => none
  | n_ + 1, x3, x4 =>
    if 5 ≤ x4 then
      some (x3, x4)
    else
      (f_X4_harmParts S x4 N_).bind fun v4 =>
      if (lg_cmp v4 0) = 0 then
        f_X4_sure_L25 S N_ n_ (x3 ||| ((1 : Int32) <<< (x4 &&& 31))) (x4 + 1)
      else
        f_X4_sure_L25 S N_ n_ (x3 ||| 0) (x4 + 1)
set_option maxRecDepth 100000 in
set_option maxHeartbeats 4000000 in
theorem k_X4_sure_L25 (l : Launch) (g : gE) {p : Program} {e : Env} {s : State} {m : MethodId} {args : Array Value} {below : List Frame} {meth : Method} {c : Code} {Q : State → Prop} {A : Nat → Prop} {b : Nat → Nat}  (C : Cx p s m args c g A cX4_sure 5 wA_X4_sure RX4) (N_ : Nat) (x1 : Int32) (x2 : Int32) (S : (Nat → Nat → Int32) × (Nat → Nat → Int64)) : ∀ (n_ : Nat) (x3 : Int32) (x4 : Int32) (rv_ : Int32 × Int32), f_X4_sure_L25 S N_ n_ x3 x4 = some rv_ → (Gm p l e (headSpec wA_X4_sure ({ frames := 3, cells := 0, slots := 0, locals := 68 } : Room)).room s m args below meth c Q g A 5 0 0 (wM g b S) [some (.ref (b 0)), some (.int x1), some (.int x2), some (.int rv_.1), some (.int rv_.2)] [] 59) → Gm p l e (headSpec wA_X4_sure ({ frames := 3, cells := 0, slots := 0, locals := 68 } : Room)).room s m args below meth c Q g A 5 0 0 (wM g b S) [some (.ref (b 0)), some (.int x1), some (.int x2), some (.int x3), some (.int x4)] [] 25 := by
  intro n_
  induction n_ with
  | zero =>
    intro x3 x4 rv_ hR
    simp [f_X4_sure_L25] at hR
  | succ n_ ih =>
    intro x3 x4 rv_ hR hk
    rw [f_X4_sure_L25] at hR
    refine g_iload C dX4_sure_25 rfl 27 rfl ?_
    refine g_iconst C dX4_sure_27 5 ic_5 28 rfl ?_
    refine g_icmp_ge C dX4_sure_28 hR 59 31 (by decide) rfl (fun c_28 hR => ?_) (fun c_28 hR => ?_)
    · obtain rfl := Option.some.inj hR
      refine g_lv [some (.ref (b 0)), some (.int x1), some (.int x2), some (.int x3), some (.int x4)] (lvLe.sm (lvLe.sm (lvLe.sm (lvLe.sm (lvLe.sm lvLe.nil))))) ?_
      exact hk
    · refine g_iload_n C dX4_sure_31 rfl 32 rfl ?_
      refine g_aload_n C dX4_sure_32 rfl 33 rfl ?_
      refine g_iload C dX4_sure_33 rfl 35 rfl ?_
      obtain ⟨v4, hv4, hR⟩ := opt_b hR
      refine g_callLR C (rn_V C (k_X4_harmParts l g b S x4 N_ v4 hv4) (cwV 1 C.1.2.2.2.2 (gdV wl_581 wl_578 wl_579 wl_580 wl_5) rfl rfl rfl hd_X4_harmParts ⟨Nat.le_of_ble_eq_true rfl, Nat.le_of_ble_eq_true rfl⟩) 0 rfl rfl _ rg_C rg_n rfl rfl (Nat.le_of_ble_eq_true rfl) ⟨Nat.zero_le _, Nat.zero_le _⟩ dX4_sure_35) 38 rfl ?_
      refine g_lconst C dX4_sure_38 0 (by decide) 39 rfl ?_
      refine g_lcmp C dX4_sure_39 40 rfl ?_
      refine g_if_ne C dX4_sure_40 hR 50 43 (by decide) rfl (fun c_40 hR => ?_) (fun c_40 hR => ?_)
      · refine g_iconst C dX4_sure_50 0 ic_0 51 rfl ?_
        refine g_ior C dX4_sure_51 52 rfl ?_
        refine g_istore_n C dX4_sure_52 [_, _, _, _, _] (Nat.le_of_ble_eq_true rfl) rfl rfl 53 rfl ?_
        refine g_iinc C dX4_sure_53 rfl 1 ic_1 [_, _, _, _, _] (Nat.le_of_ble_eq_true rfl) rfl rfl 56 rfl ?_
        refine g_goto C dX4_sure_56 25 (by decide) ?_
        refine g_lv [some (.ref (b 0)), some (.int x1), some (.int x2), some (.int (x3 ||| 0)), some (.int (x4 + 1))] (lvLe.sm (lvLe.sm (lvLe.sm (lvLe.sm (lvLe.sm lvLe.nil))))) ?_
        exact ih _ _ rv_ hR hk
      · refine g_iconst C dX4_sure_43 1 ic_1 44 rfl ?_
        refine g_iload C dX4_sure_44 rfl 46 rfl ?_
        refine g_ishl C dX4_sure_46 47 rfl ?_
        refine g_goto C dX4_sure_47 51 (by decide) ?_
        refine g_ior C dX4_sure_51 52 rfl ?_
        refine g_istore_n C dX4_sure_52 [_, _, _, _, _] (Nat.le_of_ble_eq_true rfl) rfl rfl 53 rfl ?_
        refine g_iinc C dX4_sure_53 rfl 1 ic_1 [_, _, _, _, _] (Nat.le_of_ble_eq_true rfl) rfl rfl 56 rfl ?_
        refine g_goto C dX4_sure_56 25 (by decide) ?_
        refine g_lv [some (.ref (b 0)), some (.int x1), some (.int x2), some (.int (x3 ||| ((1 : Int32) <<< (x4 &&& 31)))), some (.int (x4 + 1))] (lvLe.sm (lvLe.sm (lvLe.sm (lvLe.sm (lvLe.sm lvLe.nil))))) ?_
        exact ih _ _ rv_ hR hk
def f_X4_sure (S : (Nat → Nat → Int32) × (Nat → Nat → Int64)) (p0 : Int32) (N_ : Nat) : Option (Int32 × ((Nat → Nat → Int32) × (Nat → Nat → Int64))) :=
  if (f_X4_notBest S p0) = 0 then
    (f_X4_findThought S N_).bind fun v1 =>
    (f_X4_sure_L25 v1 N_ N_ 0 0).bind fun v5 =>
    some (v5.1, v1)
  else
    (f_X4_no S (f_X4_notBest S p0) N_).bind fun v6 =>
    some (v6.1, v6.2)
set_option maxRecDepth 100000 in
set_option maxHeartbeats 4000000 in
theorem k_X4_sure (l : Launch) (g : gE) (b : Nat → Nat) (S : (Nat → Nat → Int32) × (Nat → Nat → Int64)) (p0 : Int32) (N_ : Nat) (R_ : Int32 × ((Nat → Nat → Int32) × (Nat → Nat → Int64))) (hR : f_X4_sure S p0 N_ = some R_) : FnI l g yX4_sure wA_X4_sure { frames := 3, cells := 0, slots := 0, locals := 68 } [.ref (b 0), .int p0] (wM g b S) R_.1 (wM g b R_.2) := by
  refine fEntry (As := [.ref (b 0), .int p0]) (maxL := 5) (ret := (some .int)) (by decide) rfl [some (.ref (b 0)), some (.int p0), none, none, none] (Nat.le_of_ble_eq_true rfl) (lvInB.to (lvInB.sm (lvInB.sm (lvInB.nn (lvInB.nn (lvInB.nn lvInB.nil)))))) ?_
  intro p e s m below meth c A C hr hlocks hname hA
  have C : Cx p s m _ c g A cX4_sure 5 wA_X4_sure RX4 := C
  rw [f_X4_sure] at hR
  refine g_aload_n C dX4_sure_0 rfl 1 rfl ?_
  refine g_iload_n C dX4_sure_1 rfl 2 rfl ?_
  refine g_callIR C (rn_V C (k_X4_notBest l g b S p0) (cwV 1 C.1.2.2.2.2 (gdV wl_558 wl_555 wl_556 wl_557 wl_5) rfl rfl rfl hd_X4_notBest ⟨Nat.le_of_ble_eq_true rfl, Nat.le_of_ble_eq_true rfl⟩) 0 rfl rfl _ rg_C rg_n rfl rfl (Nat.le_of_ble_eq_true rfl) ⟨Nat.zero_le _, Nat.zero_le _⟩ dX4_sure_2) 5 rfl ?_
  refine g_istore_n C dX4_sure_5 [_, _, _, _, _] (Nat.le_of_ble_eq_true rfl) rfl rfl 6 rfl ?_
  refine g_iload_n C dX4_sure_6 rfl 7 rfl ?_
  refine g_if_eq C dX4_sure_7 hR 16 10 (by decide) rfl (fun c_7 hR => ?_) (fun c_7 hR => ?_)
  · refine g_aload_n C dX4_sure_16 rfl 17 rfl ?_
    obtain ⟨v1, hv1, hR⟩ := opt_b hR
    refine g_callV C (rn_V C (k_X4_findThought l g b S N_ v1 hv1) (cwV 0 C.1.2.2.2.2 (gdV wl_467 wl_464 wl_465 wl_466 wl_5) rfl rfl rfl hd_X4_findThought ⟨Nat.le_of_ble_eq_true rfl, Nat.le_of_ble_eq_true rfl⟩) 0 rfl rfl _ rg_C rg_n rfl rfl (Nat.le_of_ble_eq_true rfl) ⟨Nat.zero_le _, Nat.zero_le _⟩ dX4_sure_17) (wM g b v1) (rg_put (wM_len.trans wM_len.symm)) (rg_len (wM_len.trans wM_len.symm)) 20 rfl ?_
    refine g_iconst C dX4_sure_20 0 ic_0 21 rfl ?_
    refine g_istore_n C dX4_sure_21 [_, _, _, _, _] (Nat.le_of_ble_eq_true rfl) rfl rfl 22 rfl ?_
    refine g_iconst C dX4_sure_22 0 ic_0 23 rfl ?_
    refine g_istore C dX4_sure_23 [_, _, _, _, _] (Nat.le_of_ble_eq_true rfl) rfl rfl 25 rfl ?_
    refine g_lv [some (.ref (b 0)), some (.int p0), some (.int (f_X4_notBest S p0)), some (.int 0), some (.int 0)] (lvLe.sm (lvLe.sm (lvLe.sm (lvLe.sm (lvLe.sm lvLe.nil))))) ?_
    obtain ⟨v5, hv5, hR⟩ := opt_b hR
    refine k_X4_sure_L25 l g C N_ p0 (f_X4_notBest S p0) v1 N_ 0 0 _ hv5 ?_
    refine g_iload_n C dX4_sure_59 rfl 60 rfl ?_
    obtain rfl := Option.some.inj hR
    exact g_iret C hr hlocks hA (by first | (dsimp only; done) | rfl) (by first | (dsimp only; done) | rfl) dX4_sure_60
  · refine g_aload_n C dX4_sure_10 rfl 11 rfl ?_
    refine g_iload_n C dX4_sure_11 rfl 12 rfl ?_
    obtain ⟨v6, hv6, hR⟩ := opt_b hR
    refine g_callI C (rn_V C (k_X4_no l g b S (f_X4_notBest S p0) N_ v6 hv6) (cwV 1 C.1.2.2.2.2 (gdV wl_111 wl_108 wl_109 wl_110 wl_5) rfl rfl rfl hd_X4_no ⟨Nat.le_of_ble_eq_true rfl, Nat.le_of_ble_eq_true rfl⟩) 0 rfl rfl _ rg_C rg_n rfl rfl (Nat.le_of_ble_eq_true rfl) ⟨Nat.zero_le _, Nat.zero_le _⟩ dX4_sure_12) (wM g b v6.2) (rg_put (wM_len.trans wM_len.symm)) (rg_len (wM_len.trans wM_len.symm)) 15 rfl ?_
    obtain rfl := Option.some.inj hR
    exact g_iret C hr hlocks hA (by first | (dsimp only; done) | rfl) (by first | (dsimp only; done) | rfl) dX4_sure_15
theorem hd_X4_laysAnswer : yX4_laysAnswer.cls = RX4 ∧ yX4_laysAnswer.cls ≠ "java/lang/invoke/MethodHandle" ∧ yX4_laysAnswer.cls ≠ "java/lang/invoke/VarHandle" ∧ (parseMethodDescriptor yX4_laysAnswer.desc).map (fun d => d.parameters.length) = some 3 := by decide +kernel
def f_X4_laysAnswer_0_L3 (x2 : Int32) (x3 : Int32) (N_ : Nat) : Nat → Int32 → ((Nat → Nat → Int32) × (Nat → Nat → Int64)) → Option (Int32 × ((Nat → Nat → Int32) × (Nat → Nat → Int64)))
  | 0, _, _ => none
  | n_ + 1, x4, S =>
    if 5 ≤ x4 then
      some (x4, S)
    else
      (f_X4_saysOff S x2 x4 N_).bind fun v3 =>
      if x4 < 0 ∨ 5 ≤ (Int32.toNatClampNeg x4) then none else
      if x3 = 1 then
        if x4 < 0 ∨ 5 ≤ (Int32.toNatClampNeg x4) then none else
        f_X4_laysAnswer_0_L3 x2 x3 N_ n_ (x4 + 1) (S.1, (kLS S.2 2 (vp_updL (S.2 2) (Int32.toNatClampNeg x4) (((S.2 0) (Int32.toNatClampNeg x4)) * (Int32.toInt64 v3)))))
      else
        if x4 < 0 ∨ 5 ≤ (Int32.toNatClampNeg x4) then none else
        f_X4_laysAnswer_0_L3 x2 x3 N_ n_ (x4 + 1) (S.1, (kLS S.2 2 (vp_updL (S.2 2) (Int32.toNatClampNeg x4) (((S.2 0) (Int32.toNatClampNeg x4)) * (Int32.toInt64 (10 - v3))))))
set_option maxRecDepth 100000 in
set_option maxHeartbeats 4000000 in
theorem k_X4_laysAnswer_0_L3 (l : Launch) (g : gE) {p : Program} {e : Env} {s : State} {m : MethodId} {args : Array Value} {below : List Frame} {meth : Method} {c : Code} {Q : State → Prop} {A : Nat → Prop} {b : Nat → Nat}  (C : Cx p s m args c g A cX4_laysAnswer 6 wA_X4_laysAnswer RX4) (N_ : Nat) (x2 : Int32) (x3 : Int32) : ∀ (n_ : Nat) (x4 : Int32) (S : (Nat → Nat → Int32) × (Nat → Nat → Int64)) (rv_ : Int32 × ((Nat → Nat → Int32) × (Nat → Nat → Int64))), f_X4_laysAnswer_0_L3 x2 x3 N_ n_ x4 S = some rv_ → (Gm p l e (headSpec wA_X4_laysAnswer ({ frames := 2, cells := 0, slots := 0, locals := 45 } : Room)).room s m args below meth c Q g A 6 0 0 (wM g b rv_.2) [some (.ref (b 0)), some (.ref (b 17)), some (.int x2), some (.int x3), some (.int rv_.1), none] [] 52) → Gm p l e (headSpec wA_X4_laysAnswer ({ frames := 2, cells := 0, slots := 0, locals := 45 } : Room)).room s m args below meth c Q g A 6 0 0 (wM g b S) [some (.ref (b 0)), some (.ref (b 17)), some (.int x2), some (.int x3), some (.int x4), none] [] 3 := by
  intro n_
  induction n_ with
  | zero =>
    intro x4 S rv_ hR
    simp [f_X4_laysAnswer_0_L3] at hR
  | succ n_ ih =>
    intro x4 S rv_ hR hk
    rw [f_X4_laysAnswer_0_L3] at hR
    refine g_iload C dX4_laysAnswer_3 rfl 5 rfl ?_
    refine g_iconst C dX4_laysAnswer_5 5 ic_5 6 rfl ?_
    refine g_icmp_ge C dX4_laysAnswer_6 hR 52 9 (by decide) rfl (fun c_6 hR => ?_) (fun c_6 hR => ?_)
    · obtain rfl := Option.some.inj hR
      refine g_lv [some (.ref (b 0)), some (.ref (b 17)), some (.int x2), some (.int x3), some (.int x4), none] (lvLe.sm (lvLe.sm (lvLe.sm (lvLe.sm (lvLe.sm (lvLe.nn lvLe.nil)))))) ?_
      exact hk
    · refine g_aload_n C dX4_laysAnswer_9 rfl 10 rfl ?_
      refine g_iload_n C dX4_laysAnswer_10 rfl 11 rfl ?_
      refine g_iload C dX4_laysAnswer_11 rfl 13 rfl ?_
      obtain ⟨v3, hv3, hR⟩ := opt_b hR
      refine g_callIR C (rn_V C (k_X4_saysOff l g b S x2 x4 N_ v3 hv3) (cwV 2 C.1.2.2.2.2 (gdV wl_439 wl_436 wl_437 wl_438 wl_5) rfl rfl rfl hd_X4_saysOff ⟨Nat.le_of_ble_eq_true rfl, Nat.le_of_ble_eq_true rfl⟩) 0 rfl rfl _ rg_C rg_n rfl rfl (Nat.le_of_ble_eq_true rfl) ⟨Nat.zero_le _, Nat.zero_le _⟩ dX4_laysAnswer_13) 16 rfl ?_
      refine g_istore C dX4_laysAnswer_16 [_, _, _, _, _, _] (Nat.le_of_ble_eq_true rfl) rfl rfl 18 rfl ?_
      refine g_aload_n C dX4_laysAnswer_18 rfl 19 rfl ?_
      refine g_get (v := .ref (b 19)) C (hiC hiA_4) 0 rfl rfl 27 (by decide) (List.mem_cons_of_mem _ wl_82) rfl rfl dX4_laysAnswer_19 22 rfl ?_
      refine g_iload C dX4_laysAnswer_22 rfl 24 rfl ?_
      refine g_aload_n C dX4_laysAnswer_24 rfl 25 rfl ?_
      refine g_iload C dX4_laysAnswer_25 rfl 27 rfl ?_
      obtain ⟨h_27, hR⟩ := opt_n hR
      refine g_lald (f := (S.2 0)) C 17 rfl h_27 dX4_laysAnswer_27 28 rfl ?_
      refine g_iload_n C dX4_laysAnswer_28 rfl 29 rfl ?_
      refine g_iconst C dX4_laysAnswer_29 1 ic_1 30 rfl ?_
      refine g_icmp_ne C dX4_laysAnswer_30 hR 38 33 (by decide) rfl (fun c_30 hR => ?_) (fun c_30 hR => ?_)
      · refine g_bipush C dX4_laysAnswer_38 10 bp_10 40 rfl ?_
        refine g_iload C dX4_laysAnswer_40 rfl 42 rfl ?_
        refine g_isub C dX4_laysAnswer_42 43 rfl ?_
        refine g_i2l C dX4_laysAnswer_43 44 rfl ?_
        refine g_lmul C dX4_laysAnswer_44 45 rfl ?_
        obtain ⟨h_45, hR⟩ := opt_n hR
        refine g_last (f := (S.2 2)) C 19 rfl h_45 dX4_laysAnswer_45 (wMr g b (S.1 0 0) (S.1 0 1) (S.1 0 2) (S.1 0 3) (S.1 0 4) (S.1 0 5) (S.1 0 6) (S.1 0 7) (S.1 0 8) (S.1 0 9) (S.1 0 10) (S.1 0 11) (S.1 0 12) (S.1 0 13) (S.1 0 14) (S.1 1) (S.1 2) (S.1 3) (S.1 4) (S.1 5) (S.1 6) (S.1 7) (S.1 8) (S.1 9) (S.1 10) (S.1 11) (S.1 12) (S.1 13) (S.1 14) (S.1 15) (S.1 16) (S.2 0) (S.2 1) (vp_updL (S.2 2) (Int32.toNatClampNeg x4) (((S.2 0) (Int32.toNatClampNeg x4)) * (Int32.toInt64 (10 - v3))))) rfl 46 rfl ?_
        refine g_iinc C dX4_laysAnswer_46 rfl 1 ic_1 [_, _, _, _, _, _] (Nat.le_of_ble_eq_true rfl) rfl rfl 49 rfl ?_
        refine g_goto C dX4_laysAnswer_49 3 (by decide) ?_
        refine g_lv [some (.ref (b 0)), some (.ref (b 17)), some (.int x2), some (.int x3), some (.int (x4 + 1)), none] (lvLe.sm (lvLe.sm (lvLe.sm (lvLe.sm (lvLe.sm (lvLe.nn lvLe.nil)))))) ?_
        exact ih _ _ rv_ hR hk
      · refine g_iload C dX4_laysAnswer_33 rfl 35 rfl ?_
        refine g_goto C dX4_laysAnswer_35 43 (by decide) ?_
        refine g_i2l C dX4_laysAnswer_43 44 rfl ?_
        refine g_lmul C dX4_laysAnswer_44 45 rfl ?_
        obtain ⟨h_45, hR⟩ := opt_n hR
        refine g_last (f := (S.2 2)) C 19 rfl h_45 dX4_laysAnswer_45 (wMr g b (S.1 0 0) (S.1 0 1) (S.1 0 2) (S.1 0 3) (S.1 0 4) (S.1 0 5) (S.1 0 6) (S.1 0 7) (S.1 0 8) (S.1 0 9) (S.1 0 10) (S.1 0 11) (S.1 0 12) (S.1 0 13) (S.1 0 14) (S.1 1) (S.1 2) (S.1 3) (S.1 4) (S.1 5) (S.1 6) (S.1 7) (S.1 8) (S.1 9) (S.1 10) (S.1 11) (S.1 12) (S.1 13) (S.1 14) (S.1 15) (S.1 16) (S.2 0) (S.2 1) (vp_updL (S.2 2) (Int32.toNatClampNeg x4) (((S.2 0) (Int32.toNatClampNeg x4)) * (Int32.toInt64 v3)))) rfl 46 rfl ?_
        refine g_iinc C dX4_laysAnswer_46 rfl 1 ic_1 [_, _, _, _, _, _] (Nat.le_of_ble_eq_true rfl) rfl rfl 49 rfl ?_
        refine g_goto C dX4_laysAnswer_49 3 (by decide) ?_
        refine g_lv [some (.ref (b 0)), some (.ref (b 17)), some (.int x2), some (.int x3), some (.int (x4 + 1)), none] (lvLe.sm (lvLe.sm (lvLe.sm (lvLe.sm (lvLe.sm (lvLe.nn lvLe.nil)))))) ?_
        exact ih _ _ rv_ hR hk
def f_X4_laysAnswer_0 (S : (Nat → Nat → Int32) × (Nat → Nat → Int64)) (p0 : Int32) (p1 : Int32) (N_ : Nat) : Option (((Nat → Nat → Int32) × (Nat → Nat → Int64))) :=
  (f_X4_laysAnswer_0_L3 p0 p1 N_ N_ 0 S).bind fun v4 =>
  some v4.2
set_option maxRecDepth 100000 in
set_option maxHeartbeats 4000000 in
theorem k_X4_laysAnswer_0 (l : Launch) (g : gE) (b : Nat → Nat) (S : (Nat → Nat → Int32) × (Nat → Nat → Int64)) (p0 : Int32) (p1 : Int32) (N_ : Nat) (R_ : ((Nat → Nat → Int32) × (Nat → Nat → Int64))) (hR : f_X4_laysAnswer_0 S p0 p1 N_ = some R_) : FnV l g yX4_laysAnswer wA_X4_laysAnswer { frames := 2, cells := 0, slots := 0, locals := 45 } [.ref (b 0), .ref (b 17), .int p0, .int p1] (wM g b S)  (wM g b R_) := by
  refine fEntry (As := [.ref (b 0), .ref (b 17), .int p0, .int p1]) (maxL := 6) (ret := none) (by decide) rfl [some (.ref (b 0)), some (.ref (b 17)), some (.int p0), some (.int p1), none, none] (Nat.le_of_ble_eq_true rfl) (lvInB.to (lvInB.sm (lvInB.sm (lvInB.sm (lvInB.sm (lvInB.nn (lvInB.nn lvInB.nil))))))) ?_
  intro p e s m below meth c A C hr hlocks hname hA
  have C : Cx p s m _ c g A cX4_laysAnswer 6 wA_X4_laysAnswer RX4 := C
  rw [f_X4_laysAnswer_0] at hR
  refine g_iconst C dX4_laysAnswer_0 0 ic_0 1 rfl ?_
  refine g_istore C dX4_laysAnswer_1 [_, _, _, _, _, _] (Nat.le_of_ble_eq_true rfl) rfl rfl 3 rfl ?_
  refine g_lv [some (.ref (b 0)), some (.ref (b 17)), some (.int p0), some (.int p1), some (.int 0), none] (lvLe.sm (lvLe.sm (lvLe.sm (lvLe.sm (lvLe.sm (lvLe.nn lvLe.nil)))))) ?_
  obtain ⟨v4, hv4, hR⟩ := opt_b hR
  refine k_X4_laysAnswer_0_L3 l g C N_ p0 p1 N_ 0 S _ hv4 ?_
  obtain rfl := Option.some.inj hR
  exact g_vret C hr hlocks hA (by first | (dsimp only; done) | rfl) dX4_laysAnswer_52
def f_X4_laysAnswer_1_L3 (x2 : Int32) (x3 : Int32) (N_ : Nat) : Nat → Int32 → ((Nat → Nat → Int32) × (Nat → Nat → Int64)) → Option (Int32 × ((Nat → Nat → Int32) × (Nat → Nat → Int64)))
  | 0, _, _ => none
  | n_ + 1, x4, S =>
    if 5 ≤ x4 then
      some (x4, S)
    else
      (f_X4_saysOff S x2 x4 N_).bind fun v3 =>
      if x4 < 0 ∨ 5 ≤ (Int32.toNatClampNeg x4) then none else
      if x3 = 1 then
        if x4 < 0 ∨ 5 ≤ (Int32.toNatClampNeg x4) then none else
        f_X4_laysAnswer_1_L3 x2 x3 N_ n_ (x4 + 1) (S.1, (kLS S.2 2 (vp_updL (S.2 2) (Int32.toNatClampNeg x4) (((S.2 1) (Int32.toNatClampNeg x4)) * (Int32.toInt64 v3)))))
      else
        if x4 < 0 ∨ 5 ≤ (Int32.toNatClampNeg x4) then none else
        f_X4_laysAnswer_1_L3 x2 x3 N_ n_ (x4 + 1) (S.1, (kLS S.2 2 (vp_updL (S.2 2) (Int32.toNatClampNeg x4) (((S.2 1) (Int32.toNatClampNeg x4)) * (Int32.toInt64 (10 - v3))))))
set_option maxRecDepth 100000 in
set_option maxHeartbeats 4000000 in
theorem k_X4_laysAnswer_1_L3 (l : Launch) (g : gE) {p : Program} {e : Env} {s : State} {m : MethodId} {args : Array Value} {below : List Frame} {meth : Method} {c : Code} {Q : State → Prop} {A : Nat → Prop} {b : Nat → Nat}  (C : Cx p s m args c g A cX4_laysAnswer 6 wA_X4_laysAnswer RX4) (N_ : Nat) (x2 : Int32) (x3 : Int32) : ∀ (n_ : Nat) (x4 : Int32) (S : (Nat → Nat → Int32) × (Nat → Nat → Int64)) (rv_ : Int32 × ((Nat → Nat → Int32) × (Nat → Nat → Int64))), f_X4_laysAnswer_1_L3 x2 x3 N_ n_ x4 S = some rv_ → (Gm p l e (headSpec wA_X4_laysAnswer ({ frames := 2, cells := 0, slots := 0, locals := 45 } : Room)).room s m args below meth c Q g A 6 0 0 (wM g b rv_.2) [some (.ref (b 0)), some (.ref (b 18)), some (.int x2), some (.int x3), some (.int rv_.1), none] [] 52) → Gm p l e (headSpec wA_X4_laysAnswer ({ frames := 2, cells := 0, slots := 0, locals := 45 } : Room)).room s m args below meth c Q g A 6 0 0 (wM g b S) [some (.ref (b 0)), some (.ref (b 18)), some (.int x2), some (.int x3), some (.int x4), none] [] 3 := by
  intro n_
  induction n_ with
  | zero =>
    intro x4 S rv_ hR
    simp [f_X4_laysAnswer_1_L3] at hR
  | succ n_ ih =>
    intro x4 S rv_ hR hk
    rw [f_X4_laysAnswer_1_L3] at hR
    refine g_iload C dX4_laysAnswer_3 rfl 5 rfl ?_
    refine g_iconst C dX4_laysAnswer_5 5 ic_5 6 rfl ?_
    refine g_icmp_ge C dX4_laysAnswer_6 hR 52 9 (by decide) rfl (fun c_6 hR => ?_) (fun c_6 hR => ?_)
    · obtain rfl := Option.some.inj hR
      refine g_lv [some (.ref (b 0)), some (.ref (b 18)), some (.int x2), some (.int x3), some (.int x4), none] (lvLe.sm (lvLe.sm (lvLe.sm (lvLe.sm (lvLe.sm (lvLe.nn lvLe.nil)))))) ?_
      exact hk
    · refine g_aload_n C dX4_laysAnswer_9 rfl 10 rfl ?_
      refine g_iload_n C dX4_laysAnswer_10 rfl 11 rfl ?_
      refine g_iload C dX4_laysAnswer_11 rfl 13 rfl ?_
      obtain ⟨v3, hv3, hR⟩ := opt_b hR
      refine g_callIR C (rn_V C (k_X4_saysOff l g b S x2 x4 N_ v3 hv3) (cwV 2 C.1.2.2.2.2 (gdV wl_439 wl_436 wl_437 wl_438 wl_5) rfl rfl rfl hd_X4_saysOff ⟨Nat.le_of_ble_eq_true rfl, Nat.le_of_ble_eq_true rfl⟩) 0 rfl rfl _ rg_C rg_n rfl rfl (Nat.le_of_ble_eq_true rfl) ⟨Nat.zero_le _, Nat.zero_le _⟩ dX4_laysAnswer_13) 16 rfl ?_
      refine g_istore C dX4_laysAnswer_16 [_, _, _, _, _, _] (Nat.le_of_ble_eq_true rfl) rfl rfl 18 rfl ?_
      refine g_aload_n C dX4_laysAnswer_18 rfl 19 rfl ?_
      refine g_get (v := .ref (b 19)) C (hiC hiA_4) 0 rfl rfl 27 (by decide) (List.mem_cons_of_mem _ wl_82) rfl rfl dX4_laysAnswer_19 22 rfl ?_
      refine g_iload C dX4_laysAnswer_22 rfl 24 rfl ?_
      refine g_aload_n C dX4_laysAnswer_24 rfl 25 rfl ?_
      refine g_iload C dX4_laysAnswer_25 rfl 27 rfl ?_
      obtain ⟨h_27, hR⟩ := opt_n hR
      refine g_lald (f := (S.2 1)) C 18 rfl h_27 dX4_laysAnswer_27 28 rfl ?_
      refine g_iload_n C dX4_laysAnswer_28 rfl 29 rfl ?_
      refine g_iconst C dX4_laysAnswer_29 1 ic_1 30 rfl ?_
      refine g_icmp_ne C dX4_laysAnswer_30 hR 38 33 (by decide) rfl (fun c_30 hR => ?_) (fun c_30 hR => ?_)
      · refine g_bipush C dX4_laysAnswer_38 10 bp_10 40 rfl ?_
        refine g_iload C dX4_laysAnswer_40 rfl 42 rfl ?_
        refine g_isub C dX4_laysAnswer_42 43 rfl ?_
        refine g_i2l C dX4_laysAnswer_43 44 rfl ?_
        refine g_lmul C dX4_laysAnswer_44 45 rfl ?_
        obtain ⟨h_45, hR⟩ := opt_n hR
        refine g_last (f := (S.2 2)) C 19 rfl h_45 dX4_laysAnswer_45 (wMr g b (S.1 0 0) (S.1 0 1) (S.1 0 2) (S.1 0 3) (S.1 0 4) (S.1 0 5) (S.1 0 6) (S.1 0 7) (S.1 0 8) (S.1 0 9) (S.1 0 10) (S.1 0 11) (S.1 0 12) (S.1 0 13) (S.1 0 14) (S.1 1) (S.1 2) (S.1 3) (S.1 4) (S.1 5) (S.1 6) (S.1 7) (S.1 8) (S.1 9) (S.1 10) (S.1 11) (S.1 12) (S.1 13) (S.1 14) (S.1 15) (S.1 16) (S.2 0) (S.2 1) (vp_updL (S.2 2) (Int32.toNatClampNeg x4) (((S.2 1) (Int32.toNatClampNeg x4)) * (Int32.toInt64 (10 - v3))))) rfl 46 rfl ?_
        refine g_iinc C dX4_laysAnswer_46 rfl 1 ic_1 [_, _, _, _, _, _] (Nat.le_of_ble_eq_true rfl) rfl rfl 49 rfl ?_
        refine g_goto C dX4_laysAnswer_49 3 (by decide) ?_
        refine g_lv [some (.ref (b 0)), some (.ref (b 18)), some (.int x2), some (.int x3), some (.int (x4 + 1)), none] (lvLe.sm (lvLe.sm (lvLe.sm (lvLe.sm (lvLe.sm (lvLe.nn lvLe.nil)))))) ?_
        exact ih _ _ rv_ hR hk
      · refine g_iload C dX4_laysAnswer_33 rfl 35 rfl ?_
        refine g_goto C dX4_laysAnswer_35 43 (by decide) ?_
        refine g_i2l C dX4_laysAnswer_43 44 rfl ?_
        refine g_lmul C dX4_laysAnswer_44 45 rfl ?_
        obtain ⟨h_45, hR⟩ := opt_n hR
        refine g_last (f := (S.2 2)) C 19 rfl h_45 dX4_laysAnswer_45 (wMr g b (S.1 0 0) (S.1 0 1) (S.1 0 2) (S.1 0 3) (S.1 0 4) (S.1 0 5) (S.1 0 6) (S.1 0 7) (S.1 0 8) (S.1 0 9) (S.1 0 10) (S.1 0 11) (S.1 0 12) (S.1 0 13) (S.1 0 14) (S.1 1) (S.1 2) (S.1 3) (S.1 4) (S.1 5) (S.1 6) (S.1 7) (S.1 8) (S.1 9) (S.1 10) (S.1 11) (S.1 12) (S.1 13) (S.1 14) (S.1 15) (S.1 16) (S.2 0) (S.2 1) (vp_updL (S.2 2) (Int32.toNatClampNeg x4) (((S.2 1) (Int32.toNatClampNeg x4)) * (Int32.toInt64 v3)))) rfl 46 rfl ?_
        refine g_iinc C dX4_laysAnswer_46 rfl 1 ic_1 [_, _, _, _, _, _] (Nat.le_of_ble_eq_true rfl) rfl rfl 49 rfl ?_
        refine g_goto C dX4_laysAnswer_49 3 (by decide) ?_
        refine g_lv [some (.ref (b 0)), some (.ref (b 18)), some (.int x2), some (.int x3), some (.int (x4 + 1)), none] (lvLe.sm (lvLe.sm (lvLe.sm (lvLe.sm (lvLe.sm (lvLe.nn lvLe.nil)))))) ?_
        exact ih _ _ rv_ hR hk
def f_X4_laysAnswer_1 (S : (Nat → Nat → Int32) × (Nat → Nat → Int64)) (p0 : Int32) (p1 : Int32) (N_ : Nat) : Option (((Nat → Nat → Int32) × (Nat → Nat → Int64))) :=
  (f_X4_laysAnswer_1_L3 p0 p1 N_ N_ 0 S).bind fun v4 =>
  some v4.2
set_option maxRecDepth 100000 in
set_option maxHeartbeats 4000000 in
theorem k_X4_laysAnswer_1 (l : Launch) (g : gE) (b : Nat → Nat) (S : (Nat → Nat → Int32) × (Nat → Nat → Int64)) (p0 : Int32) (p1 : Int32) (N_ : Nat) (R_ : ((Nat → Nat → Int32) × (Nat → Nat → Int64))) (hR : f_X4_laysAnswer_1 S p0 p1 N_ = some R_) : FnV l g yX4_laysAnswer wA_X4_laysAnswer { frames := 2, cells := 0, slots := 0, locals := 45 } [.ref (b 0), .ref (b 18), .int p0, .int p1] (wM g b S)  (wM g b R_) := by
  refine fEntry (As := [.ref (b 0), .ref (b 18), .int p0, .int p1]) (maxL := 6) (ret := none) (by decide) rfl [some (.ref (b 0)), some (.ref (b 18)), some (.int p0), some (.int p1), none, none] (Nat.le_of_ble_eq_true rfl) (lvInB.to (lvInB.sm (lvInB.sm (lvInB.sm (lvInB.sm (lvInB.nn (lvInB.nn lvInB.nil))))))) ?_
  intro p e s m below meth c A C hr hlocks hname hA
  have C : Cx p s m _ c g A cX4_laysAnswer 6 wA_X4_laysAnswer RX4 := C
  rw [f_X4_laysAnswer_1] at hR
  refine g_iconst C dX4_laysAnswer_0 0 ic_0 1 rfl ?_
  refine g_istore C dX4_laysAnswer_1 [_, _, _, _, _, _] (Nat.le_of_ble_eq_true rfl) rfl rfl 3 rfl ?_
  refine g_lv [some (.ref (b 0)), some (.ref (b 18)), some (.int p0), some (.int p1), some (.int 0), none] (lvLe.sm (lvLe.sm (lvLe.sm (lvLe.sm (lvLe.sm (lvLe.nn lvLe.nil)))))) ?_
  obtain ⟨v4, hv4, hR⟩ := opt_b hR
  refine k_X4_laysAnswer_1_L3 l g C N_ p0 p1 N_ 0 S _ hv4 ?_
  obtain rfl := Option.some.inj hR
  exact g_vret C hr hlocks hA (by first | (dsimp only; done) | rfl) dX4_laysAnswer_52
theorem hd_X4_bestBehind : yX4_bestBehind.cls = RX4 ∧ yX4_bestBehind.cls ≠ "java/lang/invoke/MethodHandle" ∧ yX4_bestBehind.cls ≠ "java/lang/invoke/VarHandle" ∧ (parseMethodDescriptor yX4_bestBehind.desc).map (fun d => d.parameters.length) = some 3 := by decide +kernel
def f_X4_bestBehind_0 (S : (Nat → Nat → Int32) × (Nat → Nat → Int64)) (p0 : Int32) (p1 : Int32) (N_ : Nat) : Option (Int64 × ((Nat → Nat → Int32) × (Nat → Nat → Int64))) :=
  (f_X4_laysAnswer_0 S p0 1 N_).bind fun v1 =>
  (f_X4_bestNet_2 v1 p1 N_).bind fun v2 =>
  (f_X4_laysAnswer_0 v1 p0 0 N_).bind fun v3 =>
  (f_X4_bestNet_2 v3 p1 N_).bind fun v4 =>
  some ((v2 + v4), v3)
set_option maxRecDepth 100000 in
set_option maxHeartbeats 4000000 in
theorem k_X4_bestBehind_0 (l : Launch) (g : gE) (b : Nat → Nat) (S : (Nat → Nat → Int32) × (Nat → Nat → Int64)) (p0 : Int32) (p1 : Int32) (N_ : Nat) (R_ : Int64 × ((Nat → Nat → Int32) × (Nat → Nat → Int64))) (hR : f_X4_bestBehind_0 S p0 p1 N_ = some R_) : FnL l g yX4_bestBehind wA_X4_bestBehind { frames := 5, cells := 0, slots := 0, locals := 117 } [.ref (b 0), .ref (b 17), .int p0, .int p1] (wM g b S) R_.1 (wM g b R_.2) := by
  refine fEntry (As := [.ref (b 0), .ref (b 17), .int p0, .int p1]) (maxL := 6) (ret := (some .long)) (by decide) rfl [some (.ref (b 0)), some (.ref (b 17)), some (.int p0), some (.int p1), none, none] (Nat.le_of_ble_eq_true rfl) (lvInB.to (lvInB.sm (lvInB.sm (lvInB.sm (lvInB.sm (lvInB.nn (lvInB.nn lvInB.nil))))))) ?_
  intro p e s m below meth c A C hr hlocks hname hA
  have C : Cx p s m _ c g A cX4_bestBehind 6 wA_X4_bestBehind RX4 := C
  rw [f_X4_bestBehind_0] at hR
  refine g_aload_n C dX4_bestBehind_0 rfl 1 rfl ?_
  refine g_aload_n C dX4_bestBehind_1 rfl 2 rfl ?_
  refine g_iload_n C dX4_bestBehind_2 rfl 3 rfl ?_
  refine g_iconst C dX4_bestBehind_3 1 ic_1 4 rfl ?_
  obtain ⟨v1, hv1, hR⟩ := opt_b hR
  refine g_callV C (rn_V C (k_X4_laysAnswer_0 l g b S p0 1 N_ v1 hv1) (cwV 3 C.1.2.2.2.2 (gdV wl_617 wl_614 wl_615 wl_616 wl_5) rfl rfl rfl hd_X4_laysAnswer ⟨Nat.le_of_ble_eq_true rfl, Nat.le_of_ble_eq_true rfl⟩) 0 rfl rfl _ rg_C rg_n rfl rfl (Nat.le_of_ble_eq_true rfl) ⟨Nat.zero_le _, Nat.zero_le _⟩ dX4_bestBehind_4) (wM g b v1) (rg_put (wM_len.trans wM_len.symm)) (rg_len (wM_len.trans wM_len.symm)) 7 rfl ?_
  refine g_aload_n C dX4_bestBehind_7 rfl 8 rfl ?_
  refine g_aload_n C dX4_bestBehind_8 rfl 9 rfl ?_
  refine g_get (v := .ref (b 19)) C (hiC hiA_4) 0 rfl rfl 27 (by decide) (List.mem_cons_of_mem _ wl_82) rfl rfl dX4_bestBehind_9 12 rfl ?_
  refine g_iload_n C dX4_bestBehind_12 rfl 13 rfl ?_
  obtain ⟨v2, hv2, hR⟩ := opt_b hR
  refine g_callLR C (rn_V C (k_X4_bestNet_2 l g b v1 p1 N_ v2 hv2) (cwV 2 C.1.2.2.2.2 (gdV wl_609 wl_606 wl_607 wl_608 wl_5) rfl rfl rfl hd_X4_bestNet ⟨Nat.le_of_ble_eq_true rfl, Nat.le_of_ble_eq_true rfl⟩) 0 rfl rfl _ rg_C rg_n rfl rfl (Nat.le_of_ble_eq_true rfl) ⟨Nat.zero_le _, Nat.zero_le _⟩ dX4_bestBehind_13) 16 rfl ?_
  refine g_lstore C dX4_bestBehind_16 [_, _, _, _, _, _] (Nat.le_of_ble_eq_true rfl) rfl rfl 18 rfl ?_
  refine g_aload_n C dX4_bestBehind_18 rfl 19 rfl ?_
  refine g_aload_n C dX4_bestBehind_19 rfl 20 rfl ?_
  refine g_iload_n C dX4_bestBehind_20 rfl 21 rfl ?_
  refine g_iconst C dX4_bestBehind_21 0 ic_0 22 rfl ?_
  obtain ⟨v3, hv3, hR⟩ := opt_b hR
  refine g_callV C (rn_V C (k_X4_laysAnswer_0 l g b v1 p0 0 N_ v3 hv3) (cwV 3 C.1.2.2.2.2 (gdV wl_617 wl_614 wl_615 wl_616 wl_5) rfl rfl rfl hd_X4_laysAnswer ⟨Nat.le_of_ble_eq_true rfl, Nat.le_of_ble_eq_true rfl⟩) 0 rfl rfl _ rg_C rg_n rfl rfl (Nat.le_of_ble_eq_true rfl) ⟨Nat.zero_le _, Nat.zero_le _⟩ dX4_bestBehind_22) (wM g b v3) (rg_put (wM_len.trans wM_len.symm)) (rg_len (wM_len.trans wM_len.symm)) 25 rfl ?_
  refine g_lload C dX4_bestBehind_25 rfl 27 rfl ?_
  refine g_aload_n C dX4_bestBehind_27 rfl 28 rfl ?_
  refine g_aload_n C dX4_bestBehind_28 rfl 29 rfl ?_
  refine g_get (v := .ref (b 19)) C (hiC hiA_4) 0 rfl rfl 27 (by decide) (List.mem_cons_of_mem _ wl_82) rfl rfl dX4_bestBehind_29 32 rfl ?_
  refine g_iload_n C dX4_bestBehind_32 rfl 33 rfl ?_
  obtain ⟨v4, hv4, hR⟩ := opt_b hR
  refine g_callLR C (rn_V C (k_X4_bestNet_2 l g b v3 p1 N_ v4 hv4) (cwV 2 C.1.2.2.2.2 (gdV wl_609 wl_606 wl_607 wl_608 wl_5) rfl rfl rfl hd_X4_bestNet ⟨Nat.le_of_ble_eq_true rfl, Nat.le_of_ble_eq_true rfl⟩) 0 rfl rfl _ rg_C rg_n rfl rfl (Nat.le_of_ble_eq_true rfl) ⟨Nat.zero_le _, Nat.zero_le _⟩ dX4_bestBehind_33) 36 rfl ?_
  refine g_ladd C dX4_bestBehind_36 37 rfl ?_
  obtain rfl := Option.some.inj hR
  exact g_lret C hr hlocks hA (by first | (dsimp only; done) | rfl) (by first | (dsimp only; done) | rfl) dX4_bestBehind_37
def f_X4_bestBehind_1 (S : (Nat → Nat → Int32) × (Nat → Nat → Int64)) (p0 : Int32) (p1 : Int32) (N_ : Nat) : Option (Int64 × ((Nat → Nat → Int32) × (Nat → Nat → Int64))) :=
  (f_X4_laysAnswer_1 S p0 1 N_).bind fun v1 =>
  (f_X4_bestNet_2 v1 p1 N_).bind fun v2 =>
  (f_X4_laysAnswer_1 v1 p0 0 N_).bind fun v3 =>
  (f_X4_bestNet_2 v3 p1 N_).bind fun v4 =>
  some ((v2 + v4), v3)
set_option maxRecDepth 100000 in
set_option maxHeartbeats 4000000 in
theorem k_X4_bestBehind_1 (l : Launch) (g : gE) (b : Nat → Nat) (S : (Nat → Nat → Int32) × (Nat → Nat → Int64)) (p0 : Int32) (p1 : Int32) (N_ : Nat) (R_ : Int64 × ((Nat → Nat → Int32) × (Nat → Nat → Int64))) (hR : f_X4_bestBehind_1 S p0 p1 N_ = some R_) : FnL l g yX4_bestBehind wA_X4_bestBehind { frames := 5, cells := 0, slots := 0, locals := 117 } [.ref (b 0), .ref (b 18), .int p0, .int p1] (wM g b S) R_.1 (wM g b R_.2) := by
  refine fEntry (As := [.ref (b 0), .ref (b 18), .int p0, .int p1]) (maxL := 6) (ret := (some .long)) (by decide) rfl [some (.ref (b 0)), some (.ref (b 18)), some (.int p0), some (.int p1), none, none] (Nat.le_of_ble_eq_true rfl) (lvInB.to (lvInB.sm (lvInB.sm (lvInB.sm (lvInB.sm (lvInB.nn (lvInB.nn lvInB.nil))))))) ?_
  intro p e s m below meth c A C hr hlocks hname hA
  have C : Cx p s m _ c g A cX4_bestBehind 6 wA_X4_bestBehind RX4 := C
  rw [f_X4_bestBehind_1] at hR
  refine g_aload_n C dX4_bestBehind_0 rfl 1 rfl ?_
  refine g_aload_n C dX4_bestBehind_1 rfl 2 rfl ?_
  refine g_iload_n C dX4_bestBehind_2 rfl 3 rfl ?_
  refine g_iconst C dX4_bestBehind_3 1 ic_1 4 rfl ?_
  obtain ⟨v1, hv1, hR⟩ := opt_b hR
  refine g_callV C (rn_V C (k_X4_laysAnswer_1 l g b S p0 1 N_ v1 hv1) (cwV 3 C.1.2.2.2.2 (gdV wl_617 wl_614 wl_615 wl_616 wl_5) rfl rfl rfl hd_X4_laysAnswer ⟨Nat.le_of_ble_eq_true rfl, Nat.le_of_ble_eq_true rfl⟩) 0 rfl rfl _ rg_C rg_n rfl rfl (Nat.le_of_ble_eq_true rfl) ⟨Nat.zero_le _, Nat.zero_le _⟩ dX4_bestBehind_4) (wM g b v1) (rg_put (wM_len.trans wM_len.symm)) (rg_len (wM_len.trans wM_len.symm)) 7 rfl ?_
  refine g_aload_n C dX4_bestBehind_7 rfl 8 rfl ?_
  refine g_aload_n C dX4_bestBehind_8 rfl 9 rfl ?_
  refine g_get (v := .ref (b 19)) C (hiC hiA_4) 0 rfl rfl 27 (by decide) (List.mem_cons_of_mem _ wl_82) rfl rfl dX4_bestBehind_9 12 rfl ?_
  refine g_iload_n C dX4_bestBehind_12 rfl 13 rfl ?_
  obtain ⟨v2, hv2, hR⟩ := opt_b hR
  refine g_callLR C (rn_V C (k_X4_bestNet_2 l g b v1 p1 N_ v2 hv2) (cwV 2 C.1.2.2.2.2 (gdV wl_609 wl_606 wl_607 wl_608 wl_5) rfl rfl rfl hd_X4_bestNet ⟨Nat.le_of_ble_eq_true rfl, Nat.le_of_ble_eq_true rfl⟩) 0 rfl rfl _ rg_C rg_n rfl rfl (Nat.le_of_ble_eq_true rfl) ⟨Nat.zero_le _, Nat.zero_le _⟩ dX4_bestBehind_13) 16 rfl ?_
  refine g_lstore C dX4_bestBehind_16 [_, _, _, _, _, _] (Nat.le_of_ble_eq_true rfl) rfl rfl 18 rfl ?_
  refine g_aload_n C dX4_bestBehind_18 rfl 19 rfl ?_
  refine g_aload_n C dX4_bestBehind_19 rfl 20 rfl ?_
  refine g_iload_n C dX4_bestBehind_20 rfl 21 rfl ?_
  refine g_iconst C dX4_bestBehind_21 0 ic_0 22 rfl ?_
  obtain ⟨v3, hv3, hR⟩ := opt_b hR
  refine g_callV C (rn_V C (k_X4_laysAnswer_1 l g b v1 p0 0 N_ v3 hv3) (cwV 3 C.1.2.2.2.2 (gdV wl_617 wl_614 wl_615 wl_616 wl_5) rfl rfl rfl hd_X4_laysAnswer ⟨Nat.le_of_ble_eq_true rfl, Nat.le_of_ble_eq_true rfl⟩) 0 rfl rfl _ rg_C rg_n rfl rfl (Nat.le_of_ble_eq_true rfl) ⟨Nat.zero_le _, Nat.zero_le _⟩ dX4_bestBehind_22) (wM g b v3) (rg_put (wM_len.trans wM_len.symm)) (rg_len (wM_len.trans wM_len.symm)) 25 rfl ?_
  refine g_lload C dX4_bestBehind_25 rfl 27 rfl ?_
  refine g_aload_n C dX4_bestBehind_27 rfl 28 rfl ?_
  refine g_aload_n C dX4_bestBehind_28 rfl 29 rfl ?_
  refine g_get (v := .ref (b 19)) C (hiC hiA_4) 0 rfl rfl 27 (by decide) (List.mem_cons_of_mem _ wl_82) rfl rfl dX4_bestBehind_29 32 rfl ?_
  refine g_iload_n C dX4_bestBehind_32 rfl 33 rfl ?_
  obtain ⟨v4, hv4, hR⟩ := opt_b hR
  refine g_callLR C (rn_V C (k_X4_bestNet_2 l g b v3 p1 N_ v4 hv4) (cwV 2 C.1.2.2.2.2 (gdV wl_609 wl_606 wl_607 wl_608 wl_5) rfl rfl rfl hd_X4_bestNet ⟨Nat.le_of_ble_eq_true rfl, Nat.le_of_ble_eq_true rfl⟩) 0 rfl rfl _ rg_C rg_n rfl rfl (Nat.le_of_ble_eq_true rfl) ⟨Nat.zero_le _, Nat.zero_le _⟩ dX4_bestBehind_33) 36 rfl ?_
  refine g_ladd C dX4_bestBehind_36 37 rfl ?_
  obtain rfl := Option.some.inj hR
  exact g_lret C hr hlocks hA (by first | (dsimp only; done) | rfl) (by first | (dsimp only; done) | rfl) dX4_bestBehind_37
theorem hd_X4_lookParts : yX4_lookParts.cls = RX4 ∧ yX4_lookParts.cls ≠ "java/lang/invoke/MethodHandle" ∧ yX4_lookParts.cls ≠ "java/lang/invoke/VarHandle" ∧ (parseMethodDescriptor yX4_lookParts.desc).map (fun d => d.parameters.length) = some 2 := by decide +kernel
def f_X4_lookParts (S : (Nat → Nat → Int32) × (Nat → Nat → Int64)) (p0 : Int32) (p1 : Int32) (N_ : Nat) : Option (Int64 × ((Nat → Nat → Int32) × (Nat → Nat → Int64))) :=
  (f_X4_bestNet_0 S p1 N_).bind fun v1 =>
  (f_X4_bestBehind_0 S p0 p1 N_).bind fun v2 =>
  if (v2.2.1 0 1) < 0 ∨ 5 ≤ (Int32.toNatClampNeg (v2.2.1 0 1)) then none else
  (f_X4_allThought v2.2 N_).bind fun v3 =>
  if p0 < 0 ∨ 4 ≤ (Int32.toNatClampNeg p0) then none else
  some ((((v2.1 - (10 * v1)) * (Int32.toInt64 ((v2.2.1 4) (Int32.toNatClampNeg (v2.2.1 0 1))))) - ((10 * v3) * (Int32.toInt64 ((v2.2.1 6) (Int32.toNatClampNeg p0))))), v2.2)
set_option maxRecDepth 100000 in
set_option maxHeartbeats 4000000 in
theorem k_X4_lookParts (l : Launch) (g : gE) (b : Nat → Nat) (S : (Nat → Nat → Int32) × (Nat → Nat → Int64)) (p0 : Int32) (p1 : Int32) (N_ : Nat) (R_ : Int64 × ((Nat → Nat → Int32) × (Nat → Nat → Int64))) (hR : f_X4_lookParts S p0 p1 N_ = some R_) : FnL l g yX4_lookParts wA_X4_lookParts { frames := 6, cells := 0, slots := 0, locals := 142 } [.ref (b 0), .int p0, .int p1] (wM g b S) R_.1 (wM g b R_.2) := by
  refine fEntry (As := [.ref (b 0), .int p0, .int p1]) (maxL := 5) (ret := (some .long)) (by decide) rfl [some (.ref (b 0)), some (.int p0), some (.int p1), none, none] (Nat.le_of_ble_eq_true rfl) (lvInB.to (lvInB.sm (lvInB.sm (lvInB.sm (lvInB.nn (lvInB.nn lvInB.nil)))))) ?_
  intro p e s m below meth c A C hr hlocks hname hA
  have C : Cx p s m _ c g A cX4_lookParts 5 wA_X4_lookParts RX4 := C
  rw [f_X4_lookParts] at hR
  refine g_ldc2 C dX4_lookParts_0 (C.1.2.2.2.2 _ (List.mem_cons_of_mem _ wl_601)) 3 rfl ?_
  refine g_aload_n C dX4_lookParts_3 rfl 4 rfl ?_
  refine g_aload_n C dX4_lookParts_4 rfl 5 rfl ?_
  refine g_get (v := .ref (b 17)) C (hiC hiA_4) 0 rfl rfl 25 (by decide) (List.mem_cons_of_mem _ wl_80) rfl rfl dX4_lookParts_5 8 rfl ?_
  refine g_iload_n C dX4_lookParts_8 rfl 9 rfl ?_
  obtain ⟨v1, hv1, hR⟩ := opt_b hR
  refine g_callLR C (rn_V C (k_X4_bestNet_0 l g b S p1 N_ v1 hv1) (cwV 2 C.1.2.2.2.2 (gdV wl_609 wl_606 wl_607 wl_608 wl_5) rfl rfl rfl hd_X4_bestNet ⟨Nat.le_of_ble_eq_true rfl, Nat.le_of_ble_eq_true rfl⟩) 0 rfl rfl _ rg_C rg_n rfl rfl (Nat.le_of_ble_eq_true rfl) ⟨Nat.zero_le _, Nat.zero_le _⟩ dX4_lookParts_9) 12 rfl ?_
  refine g_lmul C dX4_lookParts_12 13 rfl ?_
  refine g_lstore_n C dX4_lookParts_13 [_, _, _, _, _] (Nat.le_of_ble_eq_true rfl) rfl rfl 14 rfl ?_
  refine g_aload_n C dX4_lookParts_14 rfl 15 rfl ?_
  refine g_aload_n C dX4_lookParts_15 rfl 16 rfl ?_
  refine g_get (v := .ref (b 17)) C (hiC hiA_4) 0 rfl rfl 25 (by decide) (List.mem_cons_of_mem _ wl_80) rfl rfl dX4_lookParts_16 19 rfl ?_
  refine g_iload_n C dX4_lookParts_19 rfl 20 rfl ?_
  refine g_iload_n C dX4_lookParts_20 rfl 21 rfl ?_
  obtain ⟨v2, hv2, hR⟩ := opt_b hR
  refine g_callL C (rn_V C (k_X4_bestBehind_0 l g b S p0 p1 N_ v2 hv2) (cwV 3 C.1.2.2.2.2 (gdV wl_613 wl_610 wl_611 wl_612 wl_5) rfl rfl rfl hd_X4_bestBehind ⟨Nat.le_of_ble_eq_true rfl, Nat.le_of_ble_eq_true rfl⟩) 0 rfl rfl _ rg_C rg_n rfl rfl (Nat.le_of_ble_eq_true rfl) ⟨Nat.zero_le _, Nat.zero_le _⟩ dX4_lookParts_21) (wM g b v2.2) (rg_put (wM_len.trans wM_len.symm)) (rg_len (wM_len.trans wM_len.symm)) 24 rfl ?_
  refine g_lload_n C dX4_lookParts_24 rfl 25 rfl ?_
  refine g_lsub C dX4_lookParts_25 26 rfl ?_
  refine g_aload_n C dX4_lookParts_26 rfl 27 rfl ?_
  refine g_get (v := .ref (b 4)) C (hiC hiA_4) 0 rfl rfl 3 (by decide) (List.mem_cons_of_mem _ wl_69) rfl rfl dX4_lookParts_27 30 rfl ?_
  refine g_aload_n C dX4_lookParts_30 rfl 31 rfl ?_
  refine g_get (v := .int (v2.2.1 0 1)) C (hiC hiA_4) 0 rfl rfl 10 (by decide) (List.mem_cons_of_mem _ wl_240) rfl rfl dX4_lookParts_31 34 rfl ?_
  obtain ⟨h_34, hR⟩ := opt_n hR
  refine g_iald (f := (v2.2.1 4)) C 4 rfl h_34 dX4_lookParts_34 35 rfl ?_
  refine g_i2l C dX4_lookParts_35 36 rfl ?_
  refine g_lmul C dX4_lookParts_36 37 rfl ?_
  refine g_ldc2 C dX4_lookParts_37 (C.1.2.2.2.2 _ (List.mem_cons_of_mem _ wl_601)) 40 rfl ?_
  refine g_aload_n C dX4_lookParts_40 rfl 41 rfl ?_
  obtain ⟨v3, hv3, hR⟩ := opt_b hR
  refine g_callLR C (rn_V C (k_X4_allThought l g b v2.2 N_ v3 hv3) (cwV 0 C.1.2.2.2.2 (gdV wl_492 wl_489 wl_490 wl_491 wl_5) rfl rfl rfl hd_X4_allThought ⟨Nat.le_of_ble_eq_true rfl, Nat.le_of_ble_eq_true rfl⟩) 0 rfl rfl _ rg_C rg_n rfl rfl (Nat.le_of_ble_eq_true rfl) ⟨Nat.zero_le _, Nat.zero_le _⟩ dX4_lookParts_41) 44 rfl ?_
  refine g_lmul C dX4_lookParts_44 45 rfl ?_
  refine g_aload_n C dX4_lookParts_45 rfl 46 rfl ?_
  refine g_get (v := .ref (b 6)) C (hiC hiA_4) 0 rfl rfl 5 (by decide) (List.mem_cons_of_mem _ wl_71) rfl rfl dX4_lookParts_46 49 rfl ?_
  refine g_iload_n C dX4_lookParts_49 rfl 50 rfl ?_
  obtain ⟨h_50, hR⟩ := opt_n hR
  refine g_iald (f := (v2.2.1 6)) C 6 rfl h_50 dX4_lookParts_50 51 rfl ?_
  refine g_i2l C dX4_lookParts_51 52 rfl ?_
  refine g_lmul C dX4_lookParts_52 53 rfl ?_
  refine g_lsub C dX4_lookParts_53 54 rfl ?_
  obtain rfl := Option.some.inj hR
  exact g_lret C hr hlocks hA (by first | (dsimp only; done) | rfl) (by first | (dsimp only; done) | rfl) dX4_lookParts_54
theorem hd_X4_looking : yX4_looking.cls = RX4 ∧ yX4_looking.cls ≠ "java/lang/invoke/MethodHandle" ∧ yX4_looking.cls ≠ "java/lang/invoke/VarHandle" ∧ (parseMethodDescriptor yX4_looking.desc).map (fun d => d.parameters.length) = some 3 := by decide +kernel
def f_X4_looking (S : (Nat → Nat → Int32) × (Nat → Nat → Int64)) (p0 : Int32) (p1 : Int32) (p2 : Int32) (N_ : Nat) : Option (Int64 × ((Nat → Nat → Int32) × (Nat → Nat → Int64))) :=
  if (b2i (f_X4_isTest p0)) = 0 then
    (f_X4_lowest S (-1) N_).bind fun v1 =>
    some (v1.1, v1.2)
  else
    if (b2i (f_X4_isWhom p1)) = 0 then
      (f_X4_lowest S (-1) N_).bind fun v8 =>
      some (v8.1, v8.2)
    else
      if (b2i (f_X4_isIn p2 0 1)) = 0 then
        (f_X4_lowest S (-2) N_).bind fun v7 =>
        some (v7.1, v7.2)
      else
        if (S.1 0 0) = 0 then
          (f_X4_lowest S (-3) N_).bind fun v6 =>
          some (v6.1, v6.2)
        else
          (f_X4_findThought S N_).bind fun v2 =>
          (f_X4_lookParts v2 p0 p1 N_).bind fun v3 =>
          (f_X4_allThought v3.2 N_).bind fun v4 =>
          (f_X4_partOf v3.1 (10 * v4) p2 N_).bind fun v5 =>
          some (v5, v3.2)
set_option maxRecDepth 100000 in
set_option maxHeartbeats 4000000 in
theorem k_X4_looking (l : Launch) (g : gE) (b : Nat → Nat) (S : (Nat → Nat → Int32) × (Nat → Nat → Int64)) (p0 : Int32) (p1 : Int32) (p2 : Int32) (N_ : Nat) (R_ : Int64 × ((Nat → Nat → Int32) × (Nat → Nat → Int64))) (hR : f_X4_looking S p0 p1 p2 N_ = some R_) : FnL l g yX4_looking wA_X4_looking { frames := 7, cells := 0, slots := 0, locals := 166 } [.ref (b 0), .int p0, .int p1, .int p2] (wM g b S) R_.1 (wM g b R_.2) := by
  refine fEntry (As := [.ref (b 0), .int p0, .int p1, .int p2]) (maxL := 5) (ret := (some .long)) (by decide) rfl [some (.ref (b 0)), some (.int p0), some (.int p1), some (.int p2), none] (Nat.le_of_ble_eq_true rfl) (lvInB.to (lvInB.sm (lvInB.sm (lvInB.sm (lvInB.sm (lvInB.nn lvInB.nil)))))) ?_
  intro p e s m below meth c A C hr hlocks hname hA
  have C : Cx p s m _ c g A cX4_looking 5 wA_X4_looking RX4 := C
  rw [f_X4_looking] at hR
  refine g_iload_n C dX4_looking_0 rfl 1 rfl ?_
  refine g_callIR C (rn_S C (k_X4_isTest l g p0) (va_cwS 1 C.1.2.2.2.2 (gdS wl_360 wl_358 wl_359 wl_5) rfl rfl rfl hd_X4_isTest.2 ⟨Nat.le_of_ble_eq_true rfl, Nat.le_of_ble_eq_true rfl⟩) [] rfl rfl rfl rfl (Nat.le_of_ble_eq_true rfl) ⟨Nat.zero_le _, Nat.zero_le _⟩ dX4_looking_1) 4 rfl ?_
  refine g_if_eq C dX4_looking_4 hR 14 7 (by decide) rfl (fun c_4 hR => ?_) (fun c_4 hR => ?_)
  · refine g_iconst C dX4_looking_14 (-1) ic_m1 15 rfl ?_
    refine g_goto C dX4_looking_15 45 (by decide) ?_
    refine g_istore C dX4_looking_45 [_, _, _, _, _] (Nat.le_of_ble_eq_true rfl) rfl rfl 47 rfl ?_
    refine g_iload C dX4_looking_47 rfl 49 rfl ?_
    refine g_if_eqF C dX4_looking_49 (by decide) 59 52 (by decide) rfl ?_
    refine g_aload_n C dX4_looking_52 rfl 53 rfl ?_
    refine g_iload C dX4_looking_53 rfl 55 rfl ?_
    obtain ⟨v1, hv1, hR⟩ := opt_b hR
    refine g_callL C (rn_V C (k_X4_lowest l g b S (-1) N_ v1 hv1) (cwV 1 C.1.2.2.2.2 (gdV wl_462 wl_459 wl_460 wl_461 wl_5) rfl rfl rfl hd_X4_lowest ⟨Nat.le_of_ble_eq_true rfl, Nat.le_of_ble_eq_true rfl⟩) 0 rfl rfl _ rg_C rg_n rfl rfl (Nat.le_of_ble_eq_true rfl) ⟨Nat.zero_le _, Nat.zero_le _⟩ dX4_looking_55) (wM g b v1.2) (rg_put (wM_len.trans wM_len.symm)) (rg_len (wM_len.trans wM_len.symm)) 58 rfl ?_
    obtain rfl := Option.some.inj hR
    exact g_lret C hr hlocks hA (by first | (dsimp only; done) | rfl) (by first | (dsimp only; done) | rfl) dX4_looking_58
  · refine g_iload_n C dX4_looking_7 rfl 8 rfl ?_
    refine g_callIR C (rn_S C (k_X4_isWhom l g p1) (va_cwS 1 C.1.2.2.2.2 (gdS wl_524 wl_522 wl_523 wl_5) rfl rfl rfl hd_X4_isWhom.2 ⟨Nat.le_of_ble_eq_true rfl, Nat.le_of_ble_eq_true rfl⟩) [] rfl rfl rfl rfl (Nat.le_of_ble_eq_true rfl) ⟨Nat.zero_le _, Nat.zero_le _⟩ dX4_looking_8) 11 rfl ?_
    refine g_if_ne C dX4_looking_11 hR 18 14 (by decide) rfl (fun c_11 hR => ?_) (fun c_11 hR => ?_)
    · refine g_iload_n C dX4_looking_18 rfl 19 rfl ?_
      refine g_iconst C dX4_looking_19 0 ic_0 20 rfl ?_
      refine g_iconst C dX4_looking_20 1 ic_1 21 rfl ?_
      refine g_callIR C (rn_S C (k_X4_isIn l g p2 0 1) (va_cwS 3 C.1.2.2.2.2 (gdS wl_232 wl_230 wl_231 wl_5) rfl rfl rfl hd_X4_isIn.2 ⟨Nat.le_of_ble_eq_true rfl, Nat.le_of_ble_eq_true rfl⟩) [] rfl rfl rfl rfl (Nat.le_of_ble_eq_true rfl) ⟨Nat.zero_le _, Nat.zero_le _⟩ dX4_looking_21) 24 rfl ?_
      refine g_if_ne C dX4_looking_24 hR 32 27 (by decide) rfl (fun c_24 hR => ?_) (fun c_24 hR => ?_)
      · refine g_aload_n C dX4_looking_32 rfl 33 rfl ?_
        refine g_get (v := .int (S.1 0 0)) C (hiC hiA_4) 0 rfl rfl 9 (by decide) (List.mem_cons_of_mem _ wl_239) rfl rfl dX4_looking_33 36 rfl ?_
        refine g_if_ne C dX4_looking_36 hR 44 39 (by decide) rfl (fun c_36 hR => ?_) (fun c_36 hR => ?_)
        · refine g_iconst C dX4_looking_44 0 ic_0 45 rfl ?_
          refine g_istore C dX4_looking_45 [_, _, _, _, _] (Nat.le_of_ble_eq_true rfl) rfl rfl 47 rfl ?_
          refine g_iload C dX4_looking_47 rfl 49 rfl ?_
          refine g_if_eqT C dX4_looking_49 (by decide) 59 (by decide) ?_
          refine g_aload_n C dX4_looking_59 rfl 60 rfl ?_
          obtain ⟨v2, hv2, hR⟩ := opt_b hR
          refine g_callV C (rn_V C (k_X4_findThought l g b S N_ v2 hv2) (cwV 0 C.1.2.2.2.2 (gdV wl_467 wl_464 wl_465 wl_466 wl_5) rfl rfl rfl hd_X4_findThought ⟨Nat.le_of_ble_eq_true rfl, Nat.le_of_ble_eq_true rfl⟩) 0 rfl rfl _ rg_C rg_n rfl rfl (Nat.le_of_ble_eq_true rfl) ⟨Nat.zero_le _, Nat.zero_le _⟩ dX4_looking_60) (wM g b v2) (rg_put (wM_len.trans wM_len.symm)) (rg_len (wM_len.trans wM_len.symm)) 63 rfl ?_
          refine g_aload_n C dX4_looking_63 rfl 64 rfl ?_
          refine g_iload_n C dX4_looking_64 rfl 65 rfl ?_
          refine g_iload_n C dX4_looking_65 rfl 66 rfl ?_
          obtain ⟨v3, hv3, hR⟩ := opt_b hR
          refine g_callL C (rn_V C (k_X4_lookParts l g b v2 p0 p1 N_ v3 hv3) (cwV 2 C.1.2.2.2.2 (gdV wl_605 wl_602 wl_603 wl_604 wl_5) rfl rfl rfl hd_X4_lookParts ⟨Nat.le_of_ble_eq_true rfl, Nat.le_of_ble_eq_true rfl⟩) 0 rfl rfl _ rg_C rg_n rfl rfl (Nat.le_of_ble_eq_true rfl) ⟨Nat.zero_le _, Nat.zero_le _⟩ dX4_looking_66) (wM g b v3.2) (rg_put (wM_len.trans wM_len.symm)) (rg_len (wM_len.trans wM_len.symm)) 69 rfl ?_
          refine g_ldc2 C dX4_looking_69 (C.1.2.2.2.2 _ (List.mem_cons_of_mem _ wl_601)) 72 rfl ?_
          refine g_aload_n C dX4_looking_72 rfl 73 rfl ?_
          obtain ⟨v4, hv4, hR⟩ := opt_b hR
          refine g_callLR C (rn_V C (k_X4_allThought l g b v3.2 N_ v4 hv4) (cwV 0 C.1.2.2.2.2 (gdV wl_492 wl_489 wl_490 wl_491 wl_5) rfl rfl rfl hd_X4_allThought ⟨Nat.le_of_ble_eq_true rfl, Nat.le_of_ble_eq_true rfl⟩) 0 rfl rfl _ rg_C rg_n rfl rfl (Nat.le_of_ble_eq_true rfl) ⟨Nat.zero_le _, Nat.zero_le _⟩ dX4_looking_73) 76 rfl ?_
          refine g_lmul C dX4_looking_76 77 rfl ?_
          refine g_iload_n C dX4_looking_77 rfl 78 rfl ?_
          obtain ⟨v5, hv5, hR⟩ := opt_b hR
          refine g_callLR C (rn_S C (k_X4_partOf l g v3.1 (10 * v4) p2 N_ v5 hv5) (va_cwS 3 C.1.2.2.2.2 (gdS wl_495 wl_493 wl_494 wl_5) rfl rfl rfl hd_X4_partOf.2 ⟨Nat.le_of_ble_eq_true rfl, Nat.le_of_ble_eq_true rfl⟩) [] rfl rfl rfl rfl (Nat.le_of_ble_eq_true rfl) ⟨Nat.zero_le _, Nat.zero_le _⟩ dX4_looking_78) 81 rfl ?_
          obtain rfl := Option.some.inj hR
          exact g_lret C hr hlocks hA (by first | (dsimp only; done) | rfl) (by first | (dsimp only; done) | rfl) dX4_looking_81
        · refine g_bipush C dX4_looking_39 (-3) bp_m3 41 rfl ?_
          refine g_goto C dX4_looking_41 45 (by decide) ?_
          refine g_istore C dX4_looking_45 [_, _, _, _, _] (Nat.le_of_ble_eq_true rfl) rfl rfl 47 rfl ?_
          refine g_iload C dX4_looking_47 rfl 49 rfl ?_
          refine g_if_eqF C dX4_looking_49 (by decide) 59 52 (by decide) rfl ?_
          refine g_aload_n C dX4_looking_52 rfl 53 rfl ?_
          refine g_iload C dX4_looking_53 rfl 55 rfl ?_
          obtain ⟨v6, hv6, hR⟩ := opt_b hR
          refine g_callL C (rn_V C (k_X4_lowest l g b S (-3) N_ v6 hv6) (cwV 1 C.1.2.2.2.2 (gdV wl_462 wl_459 wl_460 wl_461 wl_5) rfl rfl rfl hd_X4_lowest ⟨Nat.le_of_ble_eq_true rfl, Nat.le_of_ble_eq_true rfl⟩) 0 rfl rfl _ rg_C rg_n rfl rfl (Nat.le_of_ble_eq_true rfl) ⟨Nat.zero_le _, Nat.zero_le _⟩ dX4_looking_55) (wM g b v6.2) (rg_put (wM_len.trans wM_len.symm)) (rg_len (wM_len.trans wM_len.symm)) 58 rfl ?_
          obtain rfl := Option.some.inj hR
          exact g_lret C hr hlocks hA (by first | (dsimp only; done) | rfl) (by first | (dsimp only; done) | rfl) dX4_looking_58
      · refine g_bipush C dX4_looking_27 (-2) bp_m2 29 rfl ?_
        refine g_goto C dX4_looking_29 45 (by decide) ?_
        refine g_istore C dX4_looking_45 [_, _, _, _, _] (Nat.le_of_ble_eq_true rfl) rfl rfl 47 rfl ?_
        refine g_iload C dX4_looking_47 rfl 49 rfl ?_
        refine g_if_eqF C dX4_looking_49 (by decide) 59 52 (by decide) rfl ?_
        refine g_aload_n C dX4_looking_52 rfl 53 rfl ?_
        refine g_iload C dX4_looking_53 rfl 55 rfl ?_
        obtain ⟨v7, hv7, hR⟩ := opt_b hR
        refine g_callL C (rn_V C (k_X4_lowest l g b S (-2) N_ v7 hv7) (cwV 1 C.1.2.2.2.2 (gdV wl_462 wl_459 wl_460 wl_461 wl_5) rfl rfl rfl hd_X4_lowest ⟨Nat.le_of_ble_eq_true rfl, Nat.le_of_ble_eq_true rfl⟩) 0 rfl rfl _ rg_C rg_n rfl rfl (Nat.le_of_ble_eq_true rfl) ⟨Nat.zero_le _, Nat.zero_le _⟩ dX4_looking_55) (wM g b v7.2) (rg_put (wM_len.trans wM_len.symm)) (rg_len (wM_len.trans wM_len.symm)) 58 rfl ?_
        obtain rfl := Option.some.inj hR
        exact g_lret C hr hlocks hA (by first | (dsimp only; done) | rfl) (by first | (dsimp only; done) | rfl) dX4_looking_58
    · refine g_iconst C dX4_looking_14 (-1) ic_m1 15 rfl ?_
      refine g_goto C dX4_looking_15 45 (by decide) ?_
      refine g_istore C dX4_looking_45 [_, _, _, _, _] (Nat.le_of_ble_eq_true rfl) rfl rfl 47 rfl ?_
      refine g_iload C dX4_looking_47 rfl 49 rfl ?_
      refine g_if_eqF C dX4_looking_49 (by decide) 59 52 (by decide) rfl ?_
      refine g_aload_n C dX4_looking_52 rfl 53 rfl ?_
      refine g_iload C dX4_looking_53 rfl 55 rfl ?_
      obtain ⟨v8, hv8, hR⟩ := opt_b hR
      refine g_callL C (rn_V C (k_X4_lowest l g b S (-1) N_ v8 hv8) (cwV 1 C.1.2.2.2.2 (gdV wl_462 wl_459 wl_460 wl_461 wl_5) rfl rfl rfl hd_X4_lowest ⟨Nat.le_of_ble_eq_true rfl, Nat.le_of_ble_eq_true rfl⟩) 0 rfl rfl _ rg_C rg_n rfl rfl (Nat.le_of_ble_eq_true rfl) ⟨Nat.zero_le _, Nat.zero_le _⟩ dX4_looking_55) (wM g b v8.2) (rg_put (wM_len.trans wM_len.symm)) (rg_len (wM_len.trans wM_len.symm)) 58 rfl ?_
      obtain rfl := Option.some.inj hR
      exact g_lret C hr hlocks hA (by first | (dsimp only; done) | rfl) (by first | (dsimp only; done) | rfl) dX4_looking_58
theorem hd_X4_bestTest : yX4_bestTest.cls = RX4 ∧ yX4_bestTest.cls ≠ "java/lang/invoke/MethodHandle" ∧ yX4_bestTest.cls ≠ "java/lang/invoke/VarHandle" ∧ (parseMethodDescriptor yX4_bestTest.desc).map (fun d => d.parameters.length) = some 1 := by decide +kernel
def f_X4_bestTest_L29 (x1 : Int32) (N_ : Nat) : Nat → Int32 → Int64 → Int32 → ((Nat → Nat → Int32) × (Nat → Nat → Int64)) → Option (Int32 × Int64 × Int32 × ((Nat → Nat → Int32) × (Nat → Nat → Int64)))
  | 0, _, _, _, _ => none
  | n_ + 1, x3, x4, x6, S =>
    if 4 ≤ x6 then
      some (x3, x4, x6, S)
    else
      (f_X4_lookParts S x6 x1 N_).bind fun v4 =>
      if 0 < (lg_cmp v4.1 x4) then
        f_X4_bestTest_L29 x1 N_ n_ x6 v4.1 (x6 + 1) v4.2
      else
        f_X4_bestTest_L29 x1 N_ n_ x3 x4 (x6 + 1) v4.2
set_option maxRecDepth 100000 in
set_option maxHeartbeats 4000000 in
theorem k_X4_bestTest_L29 (l : Launch) (g : gE) {p : Program} {e : Env} {s : State} {m : MethodId} {args : Array Value} {below : List Frame} {meth : Method} {c : Code} {Q : State → Prop} {A : Nat → Prop} {b : Nat → Nat}  (C : Cx p s m args c g A cX4_bestTest 9 wA_X4_bestTest RX4) (N_ : Nat) (x1 : Int32) (x2 : Int32) : ∀ (n_ : Nat) (x3 : Int32) (x4 : Int64) (x6 : Int32) (S : (Nat → Nat → Int32) × (Nat → Nat → Int64)) (rv_ : Int32 × Int64 × Int32 × ((Nat → Nat → Int32) × (Nat → Nat → Int64))), f_X4_bestTest_L29 x1 N_ n_ x3 x4 x6 S = some rv_ → (Gm p l e (headSpec wA_X4_bestTest ({ frames := 7, cells := 0, slots := 0, locals := 166 } : Room)).room s m args below meth c Q g A 9 0 0 (wM g b rv_.2.2.2) [some (.ref (b 0)), some (.int x1), some (.int x2), some (.int rv_.1), some (.long rv_.2.1), none, some (.int rv_.2.2.1), none, none] [] 68) → Gm p l e (headSpec wA_X4_bestTest ({ frames := 7, cells := 0, slots := 0, locals := 166 } : Room)).room s m args below meth c Q g A 9 0 0 (wM g b S) [some (.ref (b 0)), some (.int x1), some (.int x2), some (.int x3), some (.long x4), none, some (.int x6), none, none] [] 29 := by
  intro n_
  induction n_ with
  | zero =>
    intro x3 x4 x6 S rv_ hR
    simp [f_X4_bestTest_L29] at hR
  | succ n_ ih =>
    intro x3 x4 x6 S rv_ hR hk
    rw [f_X4_bestTest_L29] at hR
    refine g_iload C dX4_bestTest_29 rfl 31 rfl ?_
    refine g_iconst C dX4_bestTest_31 4 ic_4 32 rfl ?_
    refine g_icmp_ge C dX4_bestTest_32 hR 68 35 (by decide) rfl (fun c_32 hR => ?_) (fun c_32 hR => ?_)
    · obtain rfl := Option.some.inj hR
      refine g_lv [some (.ref (b 0)), some (.int x1), some (.int x2), some (.int x3), some (.long x4), none, some (.int x6), none, none] (lvLe.sm (lvLe.sm (lvLe.sm (lvLe.sm (lvLe.sm (lvLe.nn (lvLe.sm (lvLe.nn (lvLe.nn lvLe.nil))))))))) ?_
      exact hk
    · refine g_aload_n C dX4_bestTest_35 rfl 36 rfl ?_
      refine g_iload C dX4_bestTest_36 rfl 38 rfl ?_
      refine g_iload_n C dX4_bestTest_38 rfl 39 rfl ?_
      obtain ⟨v4, hv4, hR⟩ := opt_b hR
      refine g_callL C (rn_V C (k_X4_lookParts l g b S x6 x1 N_ v4 hv4) (cwV 2 C.1.2.2.2.2 (gdV wl_605 wl_602 wl_603 wl_604 wl_5) rfl rfl rfl hd_X4_lookParts ⟨Nat.le_of_ble_eq_true rfl, Nat.le_of_ble_eq_true rfl⟩) 0 rfl rfl _ rg_C rg_n rfl rfl (Nat.le_of_ble_eq_true rfl) ⟨Nat.zero_le _, Nat.zero_le _⟩ dX4_bestTest_39) (wM g b v4.2) (rg_put (wM_len.trans wM_len.symm)) (rg_len (wM_len.trans wM_len.symm)) 42 rfl ?_
      refine g_lstore C dX4_bestTest_42 [_, _, _, _, _, _, _, _, _] (Nat.le_of_ble_eq_true rfl) rfl rfl 44 rfl ?_
      refine g_lload C dX4_bestTest_44 rfl 46 rfl ?_
      refine g_lload C dX4_bestTest_46 rfl 48 rfl ?_
      refine g_lcmp C dX4_bestTest_48 49 rfl ?_
      refine g_if_gt C dX4_bestTest_49 hR 55 52 (by decide) rfl (fun c_49 hR => ?_) (fun c_49 hR => ?_)
      · refine g_iload C dX4_bestTest_55 rfl 57 rfl ?_
        refine g_istore_n C dX4_bestTest_57 [_, _, _, _, _, _, _, _, _] (Nat.le_of_ble_eq_true rfl) rfl rfl 58 rfl ?_
        refine g_lload C dX4_bestTest_58 rfl 60 rfl ?_
        refine g_lstore C dX4_bestTest_60 [_, _, _, _, _, _, _, _, _] (Nat.le_of_ble_eq_true rfl) rfl rfl 62 rfl ?_
        refine g_iinc C dX4_bestTest_62 rfl 1 ic_1 [_, _, _, _, _, _, _, _, _] (Nat.le_of_ble_eq_true rfl) rfl rfl 65 rfl ?_
        refine g_goto C dX4_bestTest_65 29 (by decide) ?_
        refine g_lv [some (.ref (b 0)), some (.int x1), some (.int x2), some (.int x6), some (.long v4.1), none, some (.int (x6 + 1)), none, none] (lvLe.sm (lvLe.sm (lvLe.sm (lvLe.sm (lvLe.sm (lvLe.nn (lvLe.sm (lvLe.nn (lvLe.nn lvLe.nil))))))))) ?_
        exact ih _ _ _ _ rv_ hR hk
      · refine g_goto C dX4_bestTest_52 62 (by decide) ?_
        refine g_iinc C dX4_bestTest_62 rfl 1 ic_1 [_, _, _, _, _, _, _, _, _] (Nat.le_of_ble_eq_true rfl) rfl rfl 65 rfl ?_
        refine g_goto C dX4_bestTest_65 29 (by decide) ?_
        refine g_lv [some (.ref (b 0)), some (.int x1), some (.int x2), some (.int x3), some (.long x4), none, some (.int (x6 + 1)), none, none] (lvLe.sm (lvLe.sm (lvLe.sm (lvLe.sm (lvLe.sm (lvLe.nn (lvLe.sm (lvLe.nn (lvLe.nn lvLe.nil))))))))) ?_
        exact ih _ _ _ _ rv_ hR hk
def f_X4_bestTest (S : (Nat → Nat → Int32) × (Nat → Nat → Int64)) (p0 : Int32) (N_ : Nat) : Option (Int32 × ((Nat → Nat → Int32) × (Nat → Nat → Int64))) :=
  if (f_X4_notBest S p0) = 0 then
    (f_X4_findThought S N_).bind fun v1 =>
    (f_X4_bestTest_L29 p0 N_ N_ (-9) 0 0 v1).bind fun v5 =>
    some (v5.1, v5.2.2.2)
  else
    (f_X4_no S (f_X4_notBest S p0) N_).bind fun v6 =>
    some (v6.1, v6.2)
set_option maxRecDepth 100000 in
set_option maxHeartbeats 4000000 in
theorem k_X4_bestTest (l : Launch) (g : gE) (b : Nat → Nat) (S : (Nat → Nat → Int32) × (Nat → Nat → Int64)) (p0 : Int32) (N_ : Nat) (R_ : Int32 × ((Nat → Nat → Int32) × (Nat → Nat → Int64))) (hR : f_X4_bestTest S p0 N_ = some R_) : FnI l g yX4_bestTest wA_X4_bestTest { frames := 7, cells := 0, slots := 0, locals := 166 } [.ref (b 0), .int p0] (wM g b S) R_.1 (wM g b R_.2) := by
  refine fEntry (As := [.ref (b 0), .int p0]) (maxL := 9) (ret := (some .int)) (by decide) rfl [some (.ref (b 0)), some (.int p0), none, none, none, none, none, none, none] (Nat.le_of_ble_eq_true rfl) (lvInB.to (lvInB.sm (lvInB.sm (lvInB.nn (lvInB.nn (lvInB.nn (lvInB.nn (lvInB.nn (lvInB.nn (lvInB.nn lvInB.nil)))))))))) ?_
  intro p e s m below meth c A C hr hlocks hname hA
  have C : Cx p s m _ c g A cX4_bestTest 9 wA_X4_bestTest RX4 := C
  rw [f_X4_bestTest] at hR
  refine g_aload_n C dX4_bestTest_0 rfl 1 rfl ?_
  refine g_iload_n C dX4_bestTest_1 rfl 2 rfl ?_
  refine g_callIR C (rn_V C (k_X4_notBest l g b S p0) (cwV 1 C.1.2.2.2.2 (gdV wl_558 wl_555 wl_556 wl_557 wl_5) rfl rfl rfl hd_X4_notBest ⟨Nat.le_of_ble_eq_true rfl, Nat.le_of_ble_eq_true rfl⟩) 0 rfl rfl _ rg_C rg_n rfl rfl (Nat.le_of_ble_eq_true rfl) ⟨Nat.zero_le _, Nat.zero_le _⟩ dX4_bestTest_2) 5 rfl ?_
  refine g_istore_n C dX4_bestTest_5 [_, _, _, _, _, _, _, _, _] (Nat.le_of_ble_eq_true rfl) rfl rfl 6 rfl ?_
  refine g_iload_n C dX4_bestTest_6 rfl 7 rfl ?_
  refine g_if_eq C dX4_bestTest_7 hR 16 10 (by decide) rfl (fun c_7 hR => ?_) (fun c_7 hR => ?_)
  · refine g_aload_n C dX4_bestTest_16 rfl 17 rfl ?_
    obtain ⟨v1, hv1, hR⟩ := opt_b hR
    refine g_callV C (rn_V C (k_X4_findThought l g b S N_ v1 hv1) (cwV 0 C.1.2.2.2.2 (gdV wl_467 wl_464 wl_465 wl_466 wl_5) rfl rfl rfl hd_X4_findThought ⟨Nat.le_of_ble_eq_true rfl, Nat.le_of_ble_eq_true rfl⟩) 0 rfl rfl _ rg_C rg_n rfl rfl (Nat.le_of_ble_eq_true rfl) ⟨Nat.zero_le _, Nat.zero_le _⟩ dX4_bestTest_17) (wM g b v1) (rg_put (wM_len.trans wM_len.symm)) (rg_len (wM_len.trans wM_len.symm)) 20 rfl ?_
    refine g_bipush C dX4_bestTest_20 (-9) bp_m9 22 rfl ?_
    refine g_istore_n C dX4_bestTest_22 [_, _, _, _, _, _, _, _, _] (Nat.le_of_ble_eq_true rfl) rfl rfl 23 rfl ?_
    refine g_lconst C dX4_bestTest_23 0 (by decide) 24 rfl ?_
    refine g_lstore C dX4_bestTest_24 [_, _, _, _, _, _, _, _, _] (Nat.le_of_ble_eq_true rfl) rfl rfl 26 rfl ?_
    refine g_iconst C dX4_bestTest_26 0 ic_0 27 rfl ?_
    refine g_istore C dX4_bestTest_27 [_, _, _, _, _, _, _, _, _] (Nat.le_of_ble_eq_true rfl) rfl rfl 29 rfl ?_
    refine g_lv [some (.ref (b 0)), some (.int p0), some (.int (f_X4_notBest S p0)), some (.int (-9)), some (.long 0), none, some (.int 0), none, none] (lvLe.sm (lvLe.sm (lvLe.sm (lvLe.sm (lvLe.sm (lvLe.nn (lvLe.sm (lvLe.nn (lvLe.nn lvLe.nil))))))))) ?_
    obtain ⟨v5, hv5, hR⟩ := opt_b hR
    refine k_X4_bestTest_L29 l g C N_ p0 (f_X4_notBest S p0) N_ (-9) 0 0 v1 _ hv5 ?_
    refine g_iload_n C dX4_bestTest_68 rfl 69 rfl ?_
    obtain rfl := Option.some.inj hR
    exact g_iret C hr hlocks hA (by first | (dsimp only; done) | rfl) (by first | (dsimp only; done) | rfl) dX4_bestTest_69
  · refine g_aload_n C dX4_bestTest_10 rfl 11 rfl ?_
    refine g_iload_n C dX4_bestTest_11 rfl 12 rfl ?_
    obtain ⟨v6, hv6, hR⟩ := opt_b hR
    refine g_callI C (rn_V C (k_X4_no l g b S (f_X4_notBest S p0) N_ v6 hv6) (cwV 1 C.1.2.2.2.2 (gdV wl_111 wl_108 wl_109 wl_110 wl_5) rfl rfl rfl hd_X4_no ⟨Nat.le_of_ble_eq_true rfl, Nat.le_of_ble_eq_true rfl⟩) 0 rfl rfl _ rg_C rg_n rfl rfl (Nat.le_of_ble_eq_true rfl) ⟨Nat.zero_le _, Nat.zero_le _⟩ dX4_bestTest_12) (wM g b v6.2) (rg_put (wM_len.trans wM_len.symm)) (rg_len (wM_len.trans wM_len.symm)) 15 rfl ?_
    obtain rfl := Option.some.inj hR
    exact g_iret C hr hlocks hA (by first | (dsimp only; done) | rfl) (by first | (dsimp only; done) | rfl) dX4_bestTest_15
theorem hd_X4_laysParts : yX4_laysParts.cls = RX4 ∧ yX4_laysParts.cls ≠ "java/lang/invoke/MethodHandle" ∧ yX4_laysParts.cls ≠ "java/lang/invoke/VarHandle" ∧ (parseMethodDescriptor yX4_laysParts.desc).map (fun d => d.parameters.length) = some 2 := by decide +kernel
def f_X4_laysParts_L12  (N_ : Nat) : Nat → Int32 → ((Nat → Nat → Int32) × (Nat → Nat → Int64)) → Option (Int32 × ((Nat → Nat → Int32) × (Nat → Nat → Int64)))
  | 0, _, _ => none
  | n_ + 1, x3, S =>
    if 5 ≤ x3 then
      some (x3, S)
    else
      if x3 < 0 ∨ 5 ≤ (Int32.toNatClampNeg x3) then none else
      if x3 < 0 ∨ 5 ≤ (Int32.toNatClampNeg x3) then none else
      f_X4_laysParts_L12 N_ n_ (x3 + 1) (S.1, (kLS S.2 1 (vp_updL (S.2 1) (Int32.toNatClampNeg x3) ((S.2 2) (Int32.toNatClampNeg x3)))))
set_option maxRecDepth 100000 in
set_option maxHeartbeats 4000000 in
theorem k_X4_laysParts_L12 (l : Launch) (g : gE) {p : Program} {e : Env} {s : State} {m : MethodId} {args : Array Value} {below : List Frame} {meth : Method} {c : Code} {Q : State → Prop} {A : Nat → Prop} {b : Nat → Nat}  (C : Cx p s m args c g A cX4_laysParts 4 wA_X4_laysParts RX4) (N_ : Nat) (x1 : Int32) (x2 : Int32) : ∀ (n_ : Nat) (x3 : Int32) (S : (Nat → Nat → Int32) × (Nat → Nat → Int64)) (rv_ : Int32 × ((Nat → Nat → Int32) × (Nat → Nat → Int64))), f_X4_laysParts_L12 N_ n_ x3 S = some rv_ → (Gm p l e (headSpec wA_X4_laysParts ({ frames := 3, cells := 0, slots := 0, locals := 70 } : Room)).room s m args below meth c Q g A 4 0 0 (wM g b rv_.2) [some (.ref (b 0)), some (.int x1), some (.int x2), some (.int rv_.1)] [] 35) → Gm p l e (headSpec wA_X4_laysParts ({ frames := 3, cells := 0, slots := 0, locals := 70 } : Room)).room s m args below meth c Q g A 4 0 0 (wM g b S) [some (.ref (b 0)), some (.int x1), some (.int x2), some (.int x3)] [] 12 := by
  intro n_
  induction n_ with
  | zero =>
    intro x3 S rv_ hR
    simp [f_X4_laysParts_L12] at hR
  | succ n_ ih =>
    intro x3 S rv_ hR hk
    rw [f_X4_laysParts_L12] at hR
    refine g_iload_n C dX4_laysParts_12 rfl 13 rfl ?_
    refine g_iconst C dX4_laysParts_13 5 ic_5 14 rfl ?_
    refine g_icmp_ge C dX4_laysParts_14 hR 35 17 (by decide) rfl (fun c_14 hR => ?_) (fun c_14 hR => ?_)
    · obtain rfl := Option.some.inj hR
      refine g_lv [some (.ref (b 0)), some (.int x1), some (.int x2), some (.int x3)] (lvLe.sm (lvLe.sm (lvLe.sm (lvLe.sm lvLe.nil)))) ?_
      exact hk
    · refine g_aload_n C dX4_laysParts_17 rfl 18 rfl ?_
      refine g_get (v := .ref (b 18)) C (hiC hiA_4) 0 rfl rfl 26 (by decide) (List.mem_cons_of_mem _ wl_81) rfl rfl dX4_laysParts_18 21 rfl ?_
      refine g_iload_n C dX4_laysParts_21 rfl 22 rfl ?_
      refine g_aload_n C dX4_laysParts_22 rfl 23 rfl ?_
      refine g_get (v := .ref (b 19)) C (hiC hiA_4) 0 rfl rfl 27 (by decide) (List.mem_cons_of_mem _ wl_82) rfl rfl dX4_laysParts_23 26 rfl ?_
      refine g_iload_n C dX4_laysParts_26 rfl 27 rfl ?_
      obtain ⟨h_27, hR⟩ := opt_n hR
      refine g_lald (f := (S.2 2)) C 19 rfl h_27 dX4_laysParts_27 28 rfl ?_
      obtain ⟨h_28, hR⟩ := opt_n hR
      refine g_last (f := (S.2 1)) C 18 rfl h_28 dX4_laysParts_28 (wMr g b (S.1 0 0) (S.1 0 1) (S.1 0 2) (S.1 0 3) (S.1 0 4) (S.1 0 5) (S.1 0 6) (S.1 0 7) (S.1 0 8) (S.1 0 9) (S.1 0 10) (S.1 0 11) (S.1 0 12) (S.1 0 13) (S.1 0 14) (S.1 1) (S.1 2) (S.1 3) (S.1 4) (S.1 5) (S.1 6) (S.1 7) (S.1 8) (S.1 9) (S.1 10) (S.1 11) (S.1 12) (S.1 13) (S.1 14) (S.1 15) (S.1 16) (S.2 0) (vp_updL (S.2 1) (Int32.toNatClampNeg x3) ((S.2 2) (Int32.toNatClampNeg x3))) (S.2 2)) rfl 29 rfl ?_
      refine g_iinc C dX4_laysParts_29 rfl 1 ic_1 [_, _, _, _] (Nat.le_of_ble_eq_true rfl) rfl rfl 32 rfl ?_
      refine g_goto C dX4_laysParts_32 12 (by decide) ?_
      refine g_lv [some (.ref (b 0)), some (.int x1), some (.int x2), some (.int (x3 + 1))] (lvLe.sm (lvLe.sm (lvLe.sm (lvLe.sm lvLe.nil)))) ?_
      exact ih _ _ rv_ hR hk
def f_X4_laysParts (S : (Nat → Nat → Int32) × (Nat → Nat → Int64)) (p0 : Int32) (p1 : Int32) (N_ : Nat) : Option (((Nat → Nat → Int32) × (Nat → Nat → Int64))) :=
  (f_X4_laysAnswer_0 S p0 p1 N_).bind fun v1 =>
  (f_X4_laysParts_L12 N_ N_ 0 v1).bind fun v2 =>
  some v2.2
set_option maxRecDepth 100000 in
set_option maxHeartbeats 4000000 in
theorem k_X4_laysParts (l : Launch) (g : gE) (b : Nat → Nat) (S : (Nat → Nat → Int32) × (Nat → Nat → Int64)) (p0 : Int32) (p1 : Int32) (N_ : Nat) (R_ : ((Nat → Nat → Int32) × (Nat → Nat → Int64))) (hR : f_X4_laysParts S p0 p1 N_ = some R_) : FnV l g yX4_laysParts wA_X4_laysParts { frames := 3, cells := 0, slots := 0, locals := 70 } [.ref (b 0), .int p0, .int p1] (wM g b S)  (wM g b R_) := by
  refine fEntry (As := [.ref (b 0), .int p0, .int p1]) (maxL := 4) (ret := none) (by decide) rfl [some (.ref (b 0)), some (.int p0), some (.int p1), none] (Nat.le_of_ble_eq_true rfl) (lvInB.to (lvInB.sm (lvInB.sm (lvInB.sm (lvInB.nn lvInB.nil))))) ?_
  intro p e s m below meth c A C hr hlocks hname hA
  have C : Cx p s m _ c g A cX4_laysParts 4 wA_X4_laysParts RX4 := C
  rw [f_X4_laysParts] at hR
  refine g_aload_n C dX4_laysParts_0 rfl 1 rfl ?_
  refine g_aload_n C dX4_laysParts_1 rfl 2 rfl ?_
  refine g_get (v := .ref (b 17)) C (hiC hiA_4) 0 rfl rfl 25 (by decide) (List.mem_cons_of_mem _ wl_80) rfl rfl dX4_laysParts_2 5 rfl ?_
  refine g_iload_n C dX4_laysParts_5 rfl 6 rfl ?_
  refine g_iload_n C dX4_laysParts_6 rfl 7 rfl ?_
  obtain ⟨v1, hv1, hR⟩ := opt_b hR
  refine g_callV C (rn_V C (k_X4_laysAnswer_0 l g b S p0 p1 N_ v1 hv1) (cwV 3 C.1.2.2.2.2 (gdV wl_617 wl_614 wl_615 wl_616 wl_5) rfl rfl rfl hd_X4_laysAnswer ⟨Nat.le_of_ble_eq_true rfl, Nat.le_of_ble_eq_true rfl⟩) 0 rfl rfl _ rg_C rg_n rfl rfl (Nat.le_of_ble_eq_true rfl) ⟨Nat.zero_le _, Nat.zero_le _⟩ dX4_laysParts_7) (wM g b v1) (rg_put (wM_len.trans wM_len.symm)) (rg_len (wM_len.trans wM_len.symm)) 10 rfl ?_
  refine g_iconst C dX4_laysParts_10 0 ic_0 11 rfl ?_
  refine g_istore_n C dX4_laysParts_11 [_, _, _, _] (Nat.le_of_ble_eq_true rfl) rfl rfl 12 rfl ?_
  refine g_lv [some (.ref (b 0)), some (.int p0), some (.int p1), some (.int 0)] (lvLe.sm (lvLe.sm (lvLe.sm (lvLe.sm lvLe.nil)))) ?_
  obtain ⟨v2, hv2, hR⟩ := opt_b hR
  refine k_X4_laysParts_L12 l g C N_ p0 p1 N_ 0 v1 _ hv2 ?_
  obtain rfl := Option.some.inj hR
  exact g_vret C hr hlocks hA (by first | (dsimp only; done) | rfl) dX4_laysParts_35
theorem hd_X4_twoParts : yX4_twoParts.cls = RX4 ∧ yX4_twoParts.cls ≠ "java/lang/invoke/MethodHandle" ∧ yX4_twoParts.cls ≠ "java/lang/invoke/VarHandle" ∧ (parseMethodDescriptor yX4_twoParts.desc).map (fun d => d.parameters.length) = some 3 := by decide +kernel
def f_X4_twoParts_L6 (x1 : Int32) (x2 : Int32) (x3 : Int32) (N_ : Nat) : Nat → Int64 → Int32 → ((Nat → Nat → Int32) × (Nat → Nat → Int64)) → Option (Int64 × Int32 × ((Nat → Nat → Int32) × (Nat → Nat → Int64)))
  | 0, _, _, _ => none
  | n_ + 1, x4, x6, S =>
    if 2 ≤ x6 then
      some (x4, x6, S)
    else
      (f_X4_laysParts S x1 x6 N_).bind fun v5 =>
      (f_X4_bestBehind_1 v5 x2 x3 N_).bind fun v6 =>
      f_X4_twoParts_L6 x1 x2 x3 N_ n_ (x4 + v6.1) (x6 + 1) v6.2
set_option maxRecDepth 100000 in
set_option maxHeartbeats 4000000 in
theorem k_X4_twoParts_L6 (l : Launch) (g : gE) {p : Program} {e : Env} {s : State} {m : MethodId} {args : Array Value} {below : List Frame} {meth : Method} {c : Code} {Q : State → Prop} {A : Nat → Prop} {b : Nat → Nat}  (C : Cx p s m args c g A cX4_twoParts 7 wA_X4_twoParts RX4) (N_ : Nat) (x1 : Int32) (x2 : Int32) (x3 : Int32) : ∀ (n_ : Nat) (x4 : Int64) (x6 : Int32) (S : (Nat → Nat → Int32) × (Nat → Nat → Int64)) (rv_ : Int64 × Int32 × ((Nat → Nat → Int32) × (Nat → Nat → Int64))), f_X4_twoParts_L6 x1 x2 x3 N_ n_ x4 x6 S = some rv_ → (Gm p l e (headSpec wA_X4_twoParts ({ frames := 6, cells := 0, slots := 0, locals := 142 } : Room)).room s m args below meth c Q g A 7 0 0 (wM g b rv_.2.2) [some (.ref (b 0)), some (.int x1), some (.int x2), some (.int x3), some (.long rv_.1), none, some (.int rv_.2.1)] [] 40) → Gm p l e (headSpec wA_X4_twoParts ({ frames := 6, cells := 0, slots := 0, locals := 142 } : Room)).room s m args below meth c Q g A 7 0 0 (wM g b S) [some (.ref (b 0)), some (.int x1), some (.int x2), some (.int x3), some (.long x4), none, some (.int x6)] [] 6 := by
  intro n_
  induction n_ with
  | zero =>
    intro x4 x6 S rv_ hR
    simp [f_X4_twoParts_L6] at hR
  | succ n_ ih =>
    intro x4 x6 S rv_ hR hk
    rw [f_X4_twoParts_L6] at hR
    refine g_iload C dX4_twoParts_6 rfl 8 rfl ?_
    refine g_iconst C dX4_twoParts_8 2 ic_2 9 rfl ?_
    refine g_icmp_ge C dX4_twoParts_9 hR 40 12 (by decide) rfl (fun c_9 hR => ?_) (fun c_9 hR => ?_)
    · obtain rfl := Option.some.inj hR
      refine g_lv [some (.ref (b 0)), some (.int x1), some (.int x2), some (.int x3), some (.long x4), none, some (.int x6)] (lvLe.sm (lvLe.sm (lvLe.sm (lvLe.sm (lvLe.sm (lvLe.nn (lvLe.sm lvLe.nil))))))) ?_
      exact hk
    · refine g_aload_n C dX4_twoParts_12 rfl 13 rfl ?_
      refine g_iload_n C dX4_twoParts_13 rfl 14 rfl ?_
      refine g_iload C dX4_twoParts_14 rfl 16 rfl ?_
      obtain ⟨v5, hv5, hR⟩ := opt_b hR
      refine g_callV C (rn_V C (k_X4_laysParts l g b S x1 x6 N_ v5 hv5) (cwV 2 C.1.2.2.2.2 (gdV wl_650 wl_647 wl_648 wl_649 wl_5) rfl rfl rfl hd_X4_laysParts ⟨Nat.le_of_ble_eq_true rfl, Nat.le_of_ble_eq_true rfl⟩) 0 rfl rfl _ rg_C rg_n rfl rfl (Nat.le_of_ble_eq_true rfl) ⟨Nat.zero_le _, Nat.zero_le _⟩ dX4_twoParts_16) (wM g b v5) (rg_put (wM_len.trans wM_len.symm)) (rg_len (wM_len.trans wM_len.symm)) 19 rfl ?_
      refine g_lload C dX4_twoParts_19 rfl 21 rfl ?_
      refine g_aload_n C dX4_twoParts_21 rfl 22 rfl ?_
      refine g_aload_n C dX4_twoParts_22 rfl 23 rfl ?_
      refine g_get (v := .ref (b 18)) C (hiC hiA_4) 0 rfl rfl 26 (by decide) (List.mem_cons_of_mem _ wl_81) rfl rfl dX4_twoParts_23 26 rfl ?_
      refine g_iload_n C dX4_twoParts_26 rfl 27 rfl ?_
      refine g_iload_n C dX4_twoParts_27 rfl 28 rfl ?_
      obtain ⟨v6, hv6, hR⟩ := opt_b hR
      refine g_callL C (rn_V C (k_X4_bestBehind_1 l g b v5 x2 x3 N_ v6 hv6) (cwV 3 C.1.2.2.2.2 (gdV wl_613 wl_610 wl_611 wl_612 wl_5) rfl rfl rfl hd_X4_bestBehind ⟨Nat.le_of_ble_eq_true rfl, Nat.le_of_ble_eq_true rfl⟩) 0 rfl rfl _ rg_C rg_n rfl rfl (Nat.le_of_ble_eq_true rfl) ⟨Nat.zero_le _, Nat.zero_le _⟩ dX4_twoParts_28) (wM g b v6.2) (rg_put (wM_len.trans wM_len.symm)) (rg_len (wM_len.trans wM_len.symm)) 31 rfl ?_
      refine g_ladd C dX4_twoParts_31 32 rfl ?_
      refine g_lstore C dX4_twoParts_32 [_, _, _, _, _, _, _] (Nat.le_of_ble_eq_true rfl) rfl rfl 34 rfl ?_
      refine g_iinc C dX4_twoParts_34 rfl 1 ic_1 [_, _, _, _, _, _, _] (Nat.le_of_ble_eq_true rfl) rfl rfl 37 rfl ?_
      refine g_goto C dX4_twoParts_37 6 (by decide) ?_
      refine g_lv [some (.ref (b 0)), some (.int x1), some (.int x2), some (.int x3), some (.long (x4 + v6.1)), none, some (.int (x6 + 1))] (lvLe.sm (lvLe.sm (lvLe.sm (lvLe.sm (lvLe.sm (lvLe.nn (lvLe.sm lvLe.nil))))))) ?_
      exact ih _ _ _ rv_ hR hk
def f_X4_twoParts (S : (Nat → Nat → Int32) × (Nat → Nat → Int64)) (p0 : Int32) (p1 : Int32) (p2 : Int32) (N_ : Nat) : Option (Int64 × ((Nat → Nat → Int32) × (Nat → Nat → Int64))) :=
  (f_X4_twoParts_L6 p0 p1 p2 N_ N_ 0 0 S).bind fun v7 =>
  (f_X4_bestNet_0 v7.2.2 p2 N_).bind fun v8 =>
  if (v7.2.2.1 0 1) < 0 ∨ 5 ≤ (Int32.toNatClampNeg (v7.2.2.1 0 1)) then none else
  (f_X4_allThought v7.2.2 N_).bind fun v9 =>
  if p0 < 0 ∨ 4 ≤ (Int32.toNatClampNeg p0) then none else
  if p1 < 0 ∨ 4 ≤ (Int32.toNatClampNeg p1) then none else
  some ((((v7.1 - (100 * v8)) * (Int32.toInt64 ((v7.2.2.1 4) (Int32.toNatClampNeg (v7.2.2.1 0 1))))) - ((100 * v9) * (Int32.toInt64 (((v7.2.2.1 6) (Int32.toNatClampNeg p0)) + ((v7.2.2.1 6) (Int32.toNatClampNeg p1)))))), v7.2.2)
set_option maxRecDepth 100000 in
set_option maxHeartbeats 4000000 in
theorem k_X4_twoParts (l : Launch) (g : gE) (b : Nat → Nat) (S : (Nat → Nat → Int32) × (Nat → Nat → Int64)) (p0 : Int32) (p1 : Int32) (p2 : Int32) (N_ : Nat) (R_ : Int64 × ((Nat → Nat → Int32) × (Nat → Nat → Int64))) (hR : f_X4_twoParts S p0 p1 p2 N_ = some R_) : FnL l g yX4_twoParts wA_X4_twoParts { frames := 6, cells := 0, slots := 0, locals := 142 } [.ref (b 0), .int p0, .int p1, .int p2] (wM g b S) R_.1 (wM g b R_.2) := by
  refine fEntry (As := [.ref (b 0), .int p0, .int p1, .int p2]) (maxL := 7) (ret := (some .long)) (by decide) rfl [some (.ref (b 0)), some (.int p0), some (.int p1), some (.int p2), none, none, none] (Nat.le_of_ble_eq_true rfl) (lvInB.to (lvInB.sm (lvInB.sm (lvInB.sm (lvInB.sm (lvInB.nn (lvInB.nn (lvInB.nn lvInB.nil)))))))) ?_
  intro p e s m below meth c A C hr hlocks hname hA
  have C : Cx p s m _ c g A cX4_twoParts 7 wA_X4_twoParts RX4 := C
  rw [f_X4_twoParts] at hR
  refine g_lconst C dX4_twoParts_0 0 (by decide) 1 rfl ?_
  refine g_lstore C dX4_twoParts_1 [_, _, _, _, _, _, _] (Nat.le_of_ble_eq_true rfl) rfl rfl 3 rfl ?_
  refine g_iconst C dX4_twoParts_3 0 ic_0 4 rfl ?_
  refine g_istore C dX4_twoParts_4 [_, _, _, _, _, _, _] (Nat.le_of_ble_eq_true rfl) rfl rfl 6 rfl ?_
  refine g_lv [some (.ref (b 0)), some (.int p0), some (.int p1), some (.int p2), some (.long 0), none, some (.int 0)] (lvLe.sm (lvLe.sm (lvLe.sm (lvLe.sm (lvLe.sm (lvLe.nn (lvLe.sm lvLe.nil))))))) ?_
  obtain ⟨v7, hv7, hR⟩ := opt_b hR
  refine k_X4_twoParts_L6 l g C N_ p0 p1 p2 N_ 0 0 S _ hv7 ?_
  refine g_lload C dX4_twoParts_40 rfl 42 rfl ?_
  refine g_ldc2 C dX4_twoParts_42 (C.1.2.2.2.2 _ (List.mem_cons_of_mem _ wl_646)) 45 rfl ?_
  refine g_aload_n C dX4_twoParts_45 rfl 46 rfl ?_
  refine g_aload_n C dX4_twoParts_46 rfl 47 rfl ?_
  refine g_get (v := .ref (b 17)) C (hiC hiA_4) 0 rfl rfl 25 (by decide) (List.mem_cons_of_mem _ wl_80) rfl rfl dX4_twoParts_47 50 rfl ?_
  refine g_iload_n C dX4_twoParts_50 rfl 51 rfl ?_
  obtain ⟨v8, hv8, hR⟩ := opt_b hR
  refine g_callLR C (rn_V C (k_X4_bestNet_0 l g b v7.2.2 p2 N_ v8 hv8) (cwV 2 C.1.2.2.2.2 (gdV wl_609 wl_606 wl_607 wl_608 wl_5) rfl rfl rfl hd_X4_bestNet ⟨Nat.le_of_ble_eq_true rfl, Nat.le_of_ble_eq_true rfl⟩) 0 rfl rfl _ rg_C rg_n rfl rfl (Nat.le_of_ble_eq_true rfl) ⟨Nat.zero_le _, Nat.zero_le _⟩ dX4_twoParts_51) 54 rfl ?_
  refine g_lmul C dX4_twoParts_54 55 rfl ?_
  refine g_lsub C dX4_twoParts_55 56 rfl ?_
  refine g_aload_n C dX4_twoParts_56 rfl 57 rfl ?_
  refine g_get (v := .ref (b 4)) C (hiC hiA_4) 0 rfl rfl 3 (by decide) (List.mem_cons_of_mem _ wl_69) rfl rfl dX4_twoParts_57 60 rfl ?_
  refine g_aload_n C dX4_twoParts_60 rfl 61 rfl ?_
  refine g_get (v := .int (v7.2.2.1 0 1)) C (hiC hiA_4) 0 rfl rfl 10 (by decide) (List.mem_cons_of_mem _ wl_240) rfl rfl dX4_twoParts_61 64 rfl ?_
  obtain ⟨h_64, hR⟩ := opt_n hR
  refine g_iald (f := (v7.2.2.1 4)) C 4 rfl h_64 dX4_twoParts_64 65 rfl ?_
  refine g_i2l C dX4_twoParts_65 66 rfl ?_
  refine g_lmul C dX4_twoParts_66 67 rfl ?_
  refine g_ldc2 C dX4_twoParts_67 (C.1.2.2.2.2 _ (List.mem_cons_of_mem _ wl_646)) 70 rfl ?_
  refine g_aload_n C dX4_twoParts_70 rfl 71 rfl ?_
  obtain ⟨v9, hv9, hR⟩ := opt_b hR
  refine g_callLR C (rn_V C (k_X4_allThought l g b v7.2.2 N_ v9 hv9) (cwV 0 C.1.2.2.2.2 (gdV wl_492 wl_489 wl_490 wl_491 wl_5) rfl rfl rfl hd_X4_allThought ⟨Nat.le_of_ble_eq_true rfl, Nat.le_of_ble_eq_true rfl⟩) 0 rfl rfl _ rg_C rg_n rfl rfl (Nat.le_of_ble_eq_true rfl) ⟨Nat.zero_le _, Nat.zero_le _⟩ dX4_twoParts_71) 74 rfl ?_
  refine g_lmul C dX4_twoParts_74 75 rfl ?_
  refine g_aload_n C dX4_twoParts_75 rfl 76 rfl ?_
  refine g_get (v := .ref (b 6)) C (hiC hiA_4) 0 rfl rfl 5 (by decide) (List.mem_cons_of_mem _ wl_71) rfl rfl dX4_twoParts_76 79 rfl ?_
  refine g_iload_n C dX4_twoParts_79 rfl 80 rfl ?_
  obtain ⟨h_80, hR⟩ := opt_n hR
  refine g_iald (f := (v7.2.2.1 6)) C 6 rfl h_80 dX4_twoParts_80 81 rfl ?_
  refine g_aload_n C dX4_twoParts_81 rfl 82 rfl ?_
  refine g_get (v := .ref (b 6)) C (hiC hiA_4) 0 rfl rfl 5 (by decide) (List.mem_cons_of_mem _ wl_71) rfl rfl dX4_twoParts_82 85 rfl ?_
  refine g_iload_n C dX4_twoParts_85 rfl 86 rfl ?_
  obtain ⟨h_86, hR⟩ := opt_n hR
  refine g_iald (f := (v7.2.2.1 6)) C 6 rfl h_86 dX4_twoParts_86 87 rfl ?_
  refine g_iadd C dX4_twoParts_87 88 rfl ?_
  refine g_i2l C dX4_twoParts_88 89 rfl ?_
  refine g_lmul C dX4_twoParts_89 90 rfl ?_
  refine g_lsub C dX4_twoParts_90 91 rfl ?_
  obtain rfl := Option.some.inj hR
  exact g_lret C hr hlocks hA (by first | (dsimp only; done) | rfl) (by first | (dsimp only; done) | rfl) dX4_twoParts_91
theorem hd_X4_bestTwo : yX4_bestTwo.cls = RX4 ∧ yX4_bestTwo.cls ≠ "java/lang/invoke/MethodHandle" ∧ yX4_bestTwo.cls ≠ "java/lang/invoke/VarHandle" ∧ (parseMethodDescriptor yX4_bestTwo.desc).map (fun d => d.parameters.length) = some 1 := by decide +kernel
def f_X4_bestTwo_L4 (x1 : Int32) (N_ : Nat) : Nat → Int32 → Int32 → ((Nat → Nat → Int32) × (Nat → Nat → Int64)) → Option (Int32 × Int32 × ((Nat → Nat → Int32) × (Nat → Nat → Int64)))
  | 0, _, _, _ => none
  | n_ + 1, x2, x3, S =>
    if 16 ≤ x3 then
      some (x2, x3, S)
    else
      (f_X4_twoParts S (x3 / 4) (x3 - x3 / 4 * 4) x1 N_).bind fun v5 =>
      (f_X4_twoParts v5.2 (x2 / 4) (x2 - x2 / 4 * 4) x1 N_).bind fun v6 =>
      if (lg_cmp v5.1 v6.1) ≤ 0 then
        f_X4_bestTwo_L4 x1 N_ n_ x2 (x3 + 1) v6.2
      else
        f_X4_bestTwo_L4 x1 N_ n_ x3 (x3 + 1) v6.2
set_option maxRecDepth 100000 in
set_option maxHeartbeats 4000000 in
theorem k_X4_bestTwo_L4 (l : Launch) (g : gE) {p : Program} {e : Env} {s : State} {m : MethodId} {args : Array Value} {below : List Frame} {meth : Method} {c : Code} {Q : State → Prop} {A : Nat → Prop} {b : Nat → Nat}  (C : Cx p s m args c g A cX4_bestTwo 4 wA_X4_bestTwo RX4) (N_ : Nat) (x1 : Int32) : ∀ (n_ : Nat) (x2 : Int32) (x3 : Int32) (S : (Nat → Nat → Int32) × (Nat → Nat → Int64)) (rv_ : Int32 × Int32 × ((Nat → Nat → Int32) × (Nat → Nat → Int64))), f_X4_bestTwo_L4 x1 N_ n_ x2 x3 S = some rv_ → (Gm p l e (headSpec wA_X4_bestTwo ({ frames := 7, cells := 0, slots := 0, locals := 168 } : Room)).room s m args below meth c Q g A 4 0 0 (wM g b rv_.2.2) [some (.ref (b 0)), some (.int x1), some (.int rv_.1), some (.int rv_.2.1)] [] 48) → Gm p l e (headSpec wA_X4_bestTwo ({ frames := 7, cells := 0, slots := 0, locals := 168 } : Room)).room s m args below meth c Q g A 4 0 0 (wM g b S) [some (.ref (b 0)), some (.int x1), some (.int x2), some (.int x3)] [] 4 := by
  intro n_
  induction n_ with
  | zero =>
    intro x2 x3 S rv_ hR
    simp [f_X4_bestTwo_L4] at hR
  | succ n_ ih =>
    intro x2 x3 S rv_ hR hk
    rw [f_X4_bestTwo_L4] at hR
    refine g_iload_n C dX4_bestTwo_4 rfl 5 rfl ?_
    refine g_bipush C dX4_bestTwo_5 16 bp_16 7 rfl ?_
    refine g_icmp_ge C dX4_bestTwo_7 hR 48 10 (by decide) rfl (fun c_7 hR => ?_) (fun c_7 hR => ?_)
    · obtain rfl := Option.some.inj hR
      refine g_lv [some (.ref (b 0)), some (.int x1), some (.int x2), some (.int x3)] (lvLe.sm (lvLe.sm (lvLe.sm (lvLe.sm lvLe.nil)))) ?_
      exact hk
    · refine g_aload_n C dX4_bestTwo_10 rfl 11 rfl ?_
      refine g_iload_n C dX4_bestTwo_11 rfl 12 rfl ?_
      refine g_iconst C dX4_bestTwo_12 4 ic_4 13 rfl ?_
      refine g_idiv C dX4_bestTwo_13 (by decide) 14 rfl ?_
      refine g_iload_n C dX4_bestTwo_14 rfl 15 rfl ?_
      refine g_iconst C dX4_bestTwo_15 4 ic_4 16 rfl ?_
      refine g_irem C dX4_bestTwo_16 (by decide) 17 rfl ?_
      refine g_iload_n C dX4_bestTwo_17 rfl 18 rfl ?_
      obtain ⟨v5, hv5, hR⟩ := opt_b hR
      refine g_callL C (rn_V C (k_X4_twoParts l g b S (x3 / 4) (x3 - x3 / 4 * 4) x1 N_ v5 hv5) (cwV 3 C.1.2.2.2.2 (gdV wl_645 wl_642 wl_643 wl_644 wl_5) rfl rfl rfl hd_X4_twoParts ⟨Nat.le_of_ble_eq_true rfl, Nat.le_of_ble_eq_true rfl⟩) 0 rfl rfl _ rg_C rg_n rfl rfl (Nat.le_of_ble_eq_true rfl) ⟨Nat.zero_le _, Nat.zero_le _⟩ dX4_bestTwo_18) (wM g b v5.2) (rg_put (wM_len.trans wM_len.symm)) (rg_len (wM_len.trans wM_len.symm)) 21 rfl ?_
      refine g_aload_n C dX4_bestTwo_21 rfl 22 rfl ?_
      refine g_iload_n C dX4_bestTwo_22 rfl 23 rfl ?_
      refine g_iconst C dX4_bestTwo_23 4 ic_4 24 rfl ?_
      refine g_idiv C dX4_bestTwo_24 (by decide) 25 rfl ?_
      refine g_iload_n C dX4_bestTwo_25 rfl 26 rfl ?_
      refine g_iconst C dX4_bestTwo_26 4 ic_4 27 rfl ?_
      refine g_irem C dX4_bestTwo_27 (by decide) 28 rfl ?_
      refine g_iload_n C dX4_bestTwo_28 rfl 29 rfl ?_
      obtain ⟨v6, hv6, hR⟩ := opt_b hR
      refine g_callL C (rn_V C (k_X4_twoParts l g b v5.2 (x2 / 4) (x2 - x2 / 4 * 4) x1 N_ v6 hv6) (cwV 3 C.1.2.2.2.2 (gdV wl_645 wl_642 wl_643 wl_644 wl_5) rfl rfl rfl hd_X4_twoParts ⟨Nat.le_of_ble_eq_true rfl, Nat.le_of_ble_eq_true rfl⟩) 0 rfl rfl _ rg_C rg_n rfl rfl (Nat.le_of_ble_eq_true rfl) ⟨Nat.zero_le _, Nat.zero_le _⟩ dX4_bestTwo_29) (wM g b v6.2) (rg_put (wM_len.trans wM_len.symm)) (rg_len (wM_len.trans wM_len.symm)) 32 rfl ?_
      refine g_lcmp C dX4_bestTwo_32 33 rfl ?_
      refine g_if_le C dX4_bestTwo_33 hR 40 36 (by decide) rfl (fun c_33 hR => ?_) (fun c_33 hR => ?_)
      · refine g_iload_n C dX4_bestTwo_40 rfl 41 rfl ?_
        refine g_istore_n C dX4_bestTwo_41 [_, _, _, _] (Nat.le_of_ble_eq_true rfl) rfl rfl 42 rfl ?_
        refine g_iinc C dX4_bestTwo_42 rfl 1 ic_1 [_, _, _, _] (Nat.le_of_ble_eq_true rfl) rfl rfl 45 rfl ?_
        refine g_goto C dX4_bestTwo_45 4 (by decide) ?_
        refine g_lv [some (.ref (b 0)), some (.int x1), some (.int x2), some (.int (x3 + 1))] (lvLe.sm (lvLe.sm (lvLe.sm (lvLe.sm lvLe.nil)))) ?_
        exact ih _ _ _ rv_ hR hk
      · refine g_iload_n C dX4_bestTwo_36 rfl 37 rfl ?_
        refine g_goto C dX4_bestTwo_37 41 (by decide) ?_
        refine g_istore_n C dX4_bestTwo_41 [_, _, _, _] (Nat.le_of_ble_eq_true rfl) rfl rfl 42 rfl ?_
        refine g_iinc C dX4_bestTwo_42 rfl 1 ic_1 [_, _, _, _] (Nat.le_of_ble_eq_true rfl) rfl rfl 45 rfl ?_
        refine g_goto C dX4_bestTwo_45 4 (by decide) ?_
        refine g_lv [some (.ref (b 0)), some (.int x1), some (.int x3), some (.int (x3 + 1))] (lvLe.sm (lvLe.sm (lvLe.sm (lvLe.sm lvLe.nil)))) ?_
        exact ih _ _ _ rv_ hR hk
def f_X4_bestTwo (S : (Nat → Nat → Int32) × (Nat → Nat → Int64)) (p0 : Int32) (N_ : Nat) : Option (Int32 × ((Nat → Nat → Int32) × (Nat → Nat → Int64))) :=
  (f_X4_bestTwo_L4 p0 N_ N_ 0 1 S).bind fun v7 =>
  some (v7.1, v7.2.2)
set_option maxRecDepth 100000 in
set_option maxHeartbeats 4000000 in
theorem k_X4_bestTwo (l : Launch) (g : gE) (b : Nat → Nat) (S : (Nat → Nat → Int32) × (Nat → Nat → Int64)) (p0 : Int32) (N_ : Nat) (R_ : Int32 × ((Nat → Nat → Int32) × (Nat → Nat → Int64))) (hR : f_X4_bestTwo S p0 N_ = some R_) : FnI l g yX4_bestTwo wA_X4_bestTwo { frames := 7, cells := 0, slots := 0, locals := 168 } [.ref (b 0), .int p0] (wM g b S) R_.1 (wM g b R_.2) := by
  refine fEntry (As := [.ref (b 0), .int p0]) (maxL := 4) (ret := (some .int)) (by decide) rfl [some (.ref (b 0)), some (.int p0), none, none] (Nat.le_of_ble_eq_true rfl) (lvInB.to (lvInB.sm (lvInB.sm (lvInB.nn (lvInB.nn lvInB.nil))))) ?_
  intro p e s m below meth c A C hr hlocks hname hA
  have C : Cx p s m _ c g A cX4_bestTwo 4 wA_X4_bestTwo RX4 := C
  rw [f_X4_bestTwo] at hR
  refine g_iconst C dX4_bestTwo_0 0 ic_0 1 rfl ?_
  refine g_istore_n C dX4_bestTwo_1 [_, _, _, _] (Nat.le_of_ble_eq_true rfl) rfl rfl 2 rfl ?_
  refine g_iconst C dX4_bestTwo_2 1 ic_1 3 rfl ?_
  refine g_istore_n C dX4_bestTwo_3 [_, _, _, _] (Nat.le_of_ble_eq_true rfl) rfl rfl 4 rfl ?_
  refine g_lv [some (.ref (b 0)), some (.int p0), some (.int 0), some (.int 1)] (lvLe.sm (lvLe.sm (lvLe.sm (lvLe.sm lvLe.nil)))) ?_
  obtain ⟨v7, hv7, hR⟩ := opt_b hR
  refine k_X4_bestTwo_L4 l g C N_ p0 N_ 0 1 S _ hv7 ?_
  refine g_iload_n C dX4_bestTwo_48 rfl 49 rfl ?_
  obtain rfl := Option.some.inj hR
  exact g_iret C hr hlocks hA (by first | (dsimp only; done) | rfl) (by first | (dsimp only; done) | rfl) dX4_bestTwo_49
theorem hd_X4_two : yX4_two.cls = RX4 ∧ yX4_two.cls ≠ "java/lang/invoke/MethodHandle" ∧ yX4_two.cls ≠ "java/lang/invoke/VarHandle" ∧ (parseMethodDescriptor yX4_two.desc).map (fun d => d.parameters.length) = some 1 := by decide +kernel
def f_X4_two (S : (Nat → Nat → Int32) × (Nat → Nat → Int64)) (p0 : Int32) (N_ : Nat) : Option (Int32 × ((Nat → Nat → Int32) × (Nat → Nat → Int64))) :=
  if (f_X4_notBest S p0) = 0 then
    (f_X4_findThought S N_).bind fun v1 =>
    (f_X4_bestTwo v1 p0 N_).bind fun v2 =>
    some (((10 * (v2.1 / 4)) + (v2.1 - v2.1 / 4 * 4)), v2.2)
  else
    (f_X4_no S (f_X4_notBest S p0) N_).bind fun v3 =>
    some (v3.1, v3.2)
set_option maxRecDepth 100000 in
set_option maxHeartbeats 4000000 in
theorem k_X4_two (l : Launch) (g : gE) (b : Nat → Nat) (S : (Nat → Nat → Int32) × (Nat → Nat → Int64)) (p0 : Int32) (N_ : Nat) (R_ : Int32 × ((Nat → Nat → Int32) × (Nat → Nat → Int64))) (hR : f_X4_two S p0 N_ = some R_) : FnI l g yX4_two wA_X4_two { frames := 8, cells := 0, slots := 0, locals := 191 } [.ref (b 0), .int p0] (wM g b S) R_.1 (wM g b R_.2) := by
  refine fEntry (As := [.ref (b 0), .int p0]) (maxL := 4) (ret := (some .int)) (by decide) rfl [some (.ref (b 0)), some (.int p0), none, none] (Nat.le_of_ble_eq_true rfl) (lvInB.to (lvInB.sm (lvInB.sm (lvInB.nn (lvInB.nn lvInB.nil))))) ?_
  intro p e s m below meth c A C hr hlocks hname hA
  have C : Cx p s m _ c g A cX4_two 4 wA_X4_two RX4 := C
  rw [f_X4_two] at hR
  refine g_aload_n C dX4_two_0 rfl 1 rfl ?_
  refine g_iload_n C dX4_two_1 rfl 2 rfl ?_
  refine g_callIR C (rn_V C (k_X4_notBest l g b S p0) (cwV 1 C.1.2.2.2.2 (gdV wl_558 wl_555 wl_556 wl_557 wl_5) rfl rfl rfl hd_X4_notBest ⟨Nat.le_of_ble_eq_true rfl, Nat.le_of_ble_eq_true rfl⟩) 0 rfl rfl _ rg_C rg_n rfl rfl (Nat.le_of_ble_eq_true rfl) ⟨Nat.zero_le _, Nat.zero_le _⟩ dX4_two_2) 5 rfl ?_
  refine g_istore_n C dX4_two_5 [_, _, _, _] (Nat.le_of_ble_eq_true rfl) rfl rfl 6 rfl ?_
  refine g_iload_n C dX4_two_6 rfl 7 rfl ?_
  refine g_if_eq C dX4_two_7 hR 16 10 (by decide) rfl (fun c_7 hR => ?_) (fun c_7 hR => ?_)
  · refine g_aload_n C dX4_two_16 rfl 17 rfl ?_
    obtain ⟨v1, hv1, hR⟩ := opt_b hR
    refine g_callV C (rn_V C (k_X4_findThought l g b S N_ v1 hv1) (cwV 0 C.1.2.2.2.2 (gdV wl_467 wl_464 wl_465 wl_466 wl_5) rfl rfl rfl hd_X4_findThought ⟨Nat.le_of_ble_eq_true rfl, Nat.le_of_ble_eq_true rfl⟩) 0 rfl rfl _ rg_C rg_n rfl rfl (Nat.le_of_ble_eq_true rfl) ⟨Nat.zero_le _, Nat.zero_le _⟩ dX4_two_17) (wM g b v1) (rg_put (wM_len.trans wM_len.symm)) (rg_len (wM_len.trans wM_len.symm)) 20 rfl ?_
    refine g_aload_n C dX4_two_20 rfl 21 rfl ?_
    refine g_iload_n C dX4_two_21 rfl 22 rfl ?_
    obtain ⟨v2, hv2, hR⟩ := opt_b hR
    refine g_callI C (rn_V C (k_X4_bestTwo l g b v1 p0 N_ v2 hv2) (cwV 1 C.1.2.2.2.2 (gdV wl_641 wl_638 wl_639 wl_640 wl_5) rfl rfl rfl hd_X4_bestTwo ⟨Nat.le_of_ble_eq_true rfl, Nat.le_of_ble_eq_true rfl⟩) 0 rfl rfl _ rg_C rg_n rfl rfl (Nat.le_of_ble_eq_true rfl) ⟨Nat.zero_le _, Nat.zero_le _⟩ dX4_two_22) (wM g b v2.2) (rg_put (wM_len.trans wM_len.symm)) (rg_len (wM_len.trans wM_len.symm)) 25 rfl ?_
    refine g_istore_n C dX4_two_25 [_, _, _, _] (Nat.le_of_ble_eq_true rfl) rfl rfl 26 rfl ?_
    refine g_bipush C dX4_two_26 10 bp_10 28 rfl ?_
    refine g_iload_n C dX4_two_28 rfl 29 rfl ?_
    refine g_iconst C dX4_two_29 4 ic_4 30 rfl ?_
    refine g_idiv C dX4_two_30 (by decide) 31 rfl ?_
    refine g_imul C dX4_two_31 32 rfl ?_
    refine g_iload_n C dX4_two_32 rfl 33 rfl ?_
    refine g_iconst C dX4_two_33 4 ic_4 34 rfl ?_
    refine g_irem C dX4_two_34 (by decide) 35 rfl ?_
    refine g_iadd C dX4_two_35 36 rfl ?_
    obtain rfl := Option.some.inj hR
    exact g_iret C hr hlocks hA (by first | (dsimp only; done) | rfl) (by first | (dsimp only; done) | rfl) dX4_two_36
  · refine g_aload_n C dX4_two_10 rfl 11 rfl ?_
    refine g_iload_n C dX4_two_11 rfl 12 rfl ?_
    obtain ⟨v3, hv3, hR⟩ := opt_b hR
    refine g_callI C (rn_V C (k_X4_no l g b S (f_X4_notBest S p0) N_ v3 hv3) (cwV 1 C.1.2.2.2.2 (gdV wl_111 wl_108 wl_109 wl_110 wl_5) rfl rfl rfl hd_X4_no ⟨Nat.le_of_ble_eq_true rfl, Nat.le_of_ble_eq_true rfl⟩) 0 rfl rfl _ rg_C rg_n rfl rfl (Nat.le_of_ble_eq_true rfl) ⟨Nat.zero_le _, Nat.zero_le _⟩ dX4_two_12) (wM g b v3.2) (rg_put (wM_len.trans wM_len.symm)) (rg_len (wM_len.trans wM_len.symm)) 15 rfl ?_
    obtain rfl := Option.some.inj hR
    exact g_iret C hr hlocks hA (by first | (dsimp only; done) | rfl) (by first | (dsimp only; done) | rfl) dX4_two_15
theorem hd_X4_notPart : yX4_notPart.cls = RX4 ∧ yX4_notPart.cls ≠ "java/lang/invoke/MethodHandle" ∧ yX4_notPart.cls ≠ "java/lang/invoke/VarHandle" ∧ (parseMethodDescriptor yX4_notPart.desc).map (fun d => d.parameters.length) = some 2 := by decide +kernel
def f_X4_notPart (S : (Nat → Nat → Int32) × (Nat → Nat → Int64)) (p0 : Int32) (p1 : Int32) : Int32 :=
  if (b2i (f_X4_isWhom p0)) = 0 then
    (-1)
  else
    if (b2i (f_X4_isIn p1 0 1)) = 0 then
      (-2)
    else
      if (S.1 0 0) = 0 then
        (-3)
      else
        0
set_option maxRecDepth 100000 in
set_option maxHeartbeats 4000000 in
theorem k_X4_notPart (l : Launch) (g : gE) (b : Nat → Nat) (S : (Nat → Nat → Int32) × (Nat → Nat → Int64)) (p0 : Int32) (p1 : Int32) : FnI l g yX4_notPart wA_X4_notPart { frames := 1, cells := 0, slots := 0, locals := 22 } [.ref (b 0), .int p0, .int p1] (wM g b S) (f_X4_notPart S p0 p1) (wM g b S) := by
  generalize hR : f_X4_notPart S p0 p1 = R_
  refine fEntry (As := [.ref (b 0), .int p0, .int p1]) (maxL := 3) (ret := (some .int)) (by decide) rfl [some (.ref (b 0)), some (.int p0), some (.int p1)] (Nat.le_of_ble_eq_true rfl) (lvInB.to (lvInB.sm (lvInB.sm (lvInB.sm lvInB.nil)))) ?_
  intro p e s m below meth c A C hr hlocks hname hA
  have C : Cx p s m _ c g A cX4_notPart 3 wA_X4_notPart RX4 := C
  rw [f_X4_notPart] at hR
  refine g_iload_n C dX4_notPart_0 rfl 1 rfl ?_
  refine g_callIR C (rn_S C (k_X4_isWhom l g p0) (va_cwS 1 C.1.2.2.2.2 (gdS wl_524 wl_522 wl_523 wl_5) rfl rfl rfl hd_X4_isWhom.2 ⟨Nat.le_of_ble_eq_true rfl, Nat.le_of_ble_eq_true rfl⟩) [] rfl rfl rfl rfl (Nat.le_of_ble_eq_true rfl) ⟨Nat.zero_le _, Nat.zero_le _⟩ dX4_notPart_1) 4 rfl ?_
  refine g_if_ne C dX4_notPart_4 hR 11 7 (by decide) rfl (fun c_4 hR => ?_) (fun c_4 hR => ?_)
  · refine g_iload_n C dX4_notPart_11 rfl 12 rfl ?_
    refine g_iconst C dX4_notPart_12 0 ic_0 13 rfl ?_
    refine g_iconst C dX4_notPart_13 1 ic_1 14 rfl ?_
    refine g_callIR C (rn_S C (k_X4_isIn l g p1 0 1) (va_cwS 3 C.1.2.2.2.2 (gdS wl_232 wl_230 wl_231 wl_5) rfl rfl rfl hd_X4_isIn.2 ⟨Nat.le_of_ble_eq_true rfl, Nat.le_of_ble_eq_true rfl⟩) [] rfl rfl rfl rfl (Nat.le_of_ble_eq_true rfl) ⟨Nat.zero_le _, Nat.zero_le _⟩ dX4_notPart_14) 17 rfl ?_
    refine g_if_ne C dX4_notPart_17 hR 25 20 (by decide) rfl (fun c_17 hR => ?_) (fun c_17 hR => ?_)
    · refine g_aload_n C dX4_notPart_25 rfl 26 rfl ?_
      refine g_get (v := .int (S.1 0 0)) C (hiC hiA_4) 0 rfl rfl 9 (by decide) (List.mem_cons_of_mem _ wl_239) rfl rfl dX4_notPart_26 29 rfl ?_
      refine g_if_ne C dX4_notPart_29 hR 37 32 (by decide) rfl (fun c_29 hR => ?_) (fun c_29 hR => ?_)
      · refine g_iconst C dX4_notPart_37 0 ic_0 38 rfl ?_
        subst hR
        exact g_iret C hr hlocks hA (by first | (dsimp only; done) | rfl) (by first | (dsimp only; done) | rfl) dX4_notPart_38
      · refine g_bipush C dX4_notPart_32 (-3) bp_m3 34 rfl ?_
        refine g_goto C dX4_notPart_34 38 (by decide) ?_
        subst hR
        exact g_iret C hr hlocks hA (by first | (dsimp only; done) | rfl) (by first | (dsimp only; done) | rfl) dX4_notPart_38
    · refine g_bipush C dX4_notPart_20 (-2) bp_m2 22 rfl ?_
      refine g_goto C dX4_notPart_22 38 (by decide) ?_
      subst hR
      exact g_iret C hr hlocks hA (by first | (dsimp only; done) | rfl) (by first | (dsimp only; done) | rfl) dX4_notPart_38
  · refine g_iconst C dX4_notPart_7 (-1) ic_m1 8 rfl ?_
    refine g_goto C dX4_notPart_8 38 (by decide) ?_
    subst hR
    exact g_iret C hr hlocks hA (by first | (dsimp only; done) | rfl) (by first | (dsimp only; done) | rfl) dX4_notPart_38
theorem hd_X4_twoWorth : yX4_twoWorth.cls = RX4 ∧ yX4_twoWorth.cls ≠ "java/lang/invoke/MethodHandle" ∧ yX4_twoWorth.cls ≠ "java/lang/invoke/VarHandle" ∧ (parseMethodDescriptor yX4_twoWorth.desc).map (fun d => d.parameters.length) = some 2 := by decide +kernel
def f_X4_twoWorth (S : (Nat → Nat → Int32) × (Nat → Nat → Int64)) (p0 : Int32) (p1 : Int32) (N_ : Nat) : Option (Int64 × ((Nat → Nat → Int32) × (Nat → Nat → Int64))) :=
  if (f_X4_notPart S p0 p1) = 0 then
    (f_X4_findThought S N_).bind fun v1 =>
    (f_X4_bestTwo v1 p0 N_).bind fun v2 =>
    (f_X4_twoParts v2.2 (v2.1 / 4) (v2.1 - v2.1 / 4 * 4) p0 N_).bind fun v3 =>
    (f_X4_allThought v3.2 N_).bind fun v4 =>
    (f_X4_partOf v3.1 (100 * v4) p1 N_).bind fun v5 =>
    some (v5, v3.2)
  else
    (f_X4_lowest S (f_X4_notPart S p0 p1) N_).bind fun v6 =>
    some (v6.1, v6.2)
set_option maxRecDepth 100000 in
set_option maxHeartbeats 4000000 in
theorem k_X4_twoWorth (l : Launch) (g : gE) (b : Nat → Nat) (S : (Nat → Nat → Int32) × (Nat → Nat → Int64)) (p0 : Int32) (p1 : Int32) (N_ : Nat) (R_ : Int64 × ((Nat → Nat → Int32) × (Nat → Nat → Int64))) (hR : f_X4_twoWorth S p0 p1 N_ = some R_) : FnL l g yX4_twoWorth wA_X4_twoWorth { frames := 8, cells := 0, slots := 0, locals := 191 } [.ref (b 0), .int p0, .int p1] (wM g b S) R_.1 (wM g b R_.2) := by
  refine fEntry (As := [.ref (b 0), .int p0, .int p1]) (maxL := 5) (ret := (some .long)) (by decide) rfl [some (.ref (b 0)), some (.int p0), some (.int p1), none, none] (Nat.le_of_ble_eq_true rfl) (lvInB.to (lvInB.sm (lvInB.sm (lvInB.sm (lvInB.nn (lvInB.nn lvInB.nil)))))) ?_
  intro p e s m below meth c A C hr hlocks hname hA
  have C : Cx p s m _ c g A cX4_twoWorth 5 wA_X4_twoWorth RX4 := C
  rw [f_X4_twoWorth] at hR
  refine g_aload_n C dX4_twoWorth_0 rfl 1 rfl ?_
  refine g_iload_n C dX4_twoWorth_1 rfl 2 rfl ?_
  refine g_iload_n C dX4_twoWorth_2 rfl 3 rfl ?_
  refine g_callIR C (rn_V C (k_X4_notPart l g b S p0 p1) (cwV 2 C.1.2.2.2.2 (gdV wl_664 wl_661 wl_662 wl_663 wl_5) rfl rfl rfl hd_X4_notPart ⟨Nat.le_of_ble_eq_true rfl, Nat.le_of_ble_eq_true rfl⟩) 0 rfl rfl _ rg_C rg_n rfl rfl (Nat.le_of_ble_eq_true rfl) ⟨Nat.zero_le _, Nat.zero_le _⟩ dX4_twoWorth_3) 6 rfl ?_
  refine g_istore_n C dX4_twoWorth_6 [_, _, _, _, _] (Nat.le_of_ble_eq_true rfl) rfl rfl 7 rfl ?_
  refine g_iload_n C dX4_twoWorth_7 rfl 8 rfl ?_
  refine g_if_eq C dX4_twoWorth_8 hR 17 11 (by decide) rfl (fun c_8 hR => ?_) (fun c_8 hR => ?_)
  · refine g_aload_n C dX4_twoWorth_17 rfl 18 rfl ?_
    obtain ⟨v1, hv1, hR⟩ := opt_b hR
    refine g_callV C (rn_V C (k_X4_findThought l g b S N_ v1 hv1) (cwV 0 C.1.2.2.2.2 (gdV wl_467 wl_464 wl_465 wl_466 wl_5) rfl rfl rfl hd_X4_findThought ⟨Nat.le_of_ble_eq_true rfl, Nat.le_of_ble_eq_true rfl⟩) 0 rfl rfl _ rg_C rg_n rfl rfl (Nat.le_of_ble_eq_true rfl) ⟨Nat.zero_le _, Nat.zero_le _⟩ dX4_twoWorth_18) (wM g b v1) (rg_put (wM_len.trans wM_len.symm)) (rg_len (wM_len.trans wM_len.symm)) 21 rfl ?_
    refine g_aload_n C dX4_twoWorth_21 rfl 22 rfl ?_
    refine g_iload_n C dX4_twoWorth_22 rfl 23 rfl ?_
    obtain ⟨v2, hv2, hR⟩ := opt_b hR
    refine g_callI C (rn_V C (k_X4_bestTwo l g b v1 p0 N_ v2 hv2) (cwV 1 C.1.2.2.2.2 (gdV wl_641 wl_638 wl_639 wl_640 wl_5) rfl rfl rfl hd_X4_bestTwo ⟨Nat.le_of_ble_eq_true rfl, Nat.le_of_ble_eq_true rfl⟩) 0 rfl rfl _ rg_C rg_n rfl rfl (Nat.le_of_ble_eq_true rfl) ⟨Nat.zero_le _, Nat.zero_le _⟩ dX4_twoWorth_23) (wM g b v2.2) (rg_put (wM_len.trans wM_len.symm)) (rg_len (wM_len.trans wM_len.symm)) 26 rfl ?_
    refine g_istore C dX4_twoWorth_26 [_, _, _, _, _] (Nat.le_of_ble_eq_true rfl) rfl rfl 28 rfl ?_
    refine g_aload_n C dX4_twoWorth_28 rfl 29 rfl ?_
    refine g_iload C dX4_twoWorth_29 rfl 31 rfl ?_
    refine g_iconst C dX4_twoWorth_31 4 ic_4 32 rfl ?_
    refine g_idiv C dX4_twoWorth_32 (by decide) 33 rfl ?_
    refine g_iload C dX4_twoWorth_33 rfl 35 rfl ?_
    refine g_iconst C dX4_twoWorth_35 4 ic_4 36 rfl ?_
    refine g_irem C dX4_twoWorth_36 (by decide) 37 rfl ?_
    refine g_iload_n C dX4_twoWorth_37 rfl 38 rfl ?_
    obtain ⟨v3, hv3, hR⟩ := opt_b hR
    refine g_callL C (rn_V C (k_X4_twoParts l g b v2.2 (v2.1 / 4) (v2.1 - v2.1 / 4 * 4) p0 N_ v3 hv3) (cwV 3 C.1.2.2.2.2 (gdV wl_645 wl_642 wl_643 wl_644 wl_5) rfl rfl rfl hd_X4_twoParts ⟨Nat.le_of_ble_eq_true rfl, Nat.le_of_ble_eq_true rfl⟩) 0 rfl rfl _ rg_C rg_n rfl rfl (Nat.le_of_ble_eq_true rfl) ⟨Nat.zero_le _, Nat.zero_le _⟩ dX4_twoWorth_38) (wM g b v3.2) (rg_put (wM_len.trans wM_len.symm)) (rg_len (wM_len.trans wM_len.symm)) 41 rfl ?_
    refine g_ldc2 C dX4_twoWorth_41 (C.1.2.2.2.2 _ (List.mem_cons_of_mem _ wl_646)) 44 rfl ?_
    refine g_aload_n C dX4_twoWorth_44 rfl 45 rfl ?_
    obtain ⟨v4, hv4, hR⟩ := opt_b hR
    refine g_callLR C (rn_V C (k_X4_allThought l g b v3.2 N_ v4 hv4) (cwV 0 C.1.2.2.2.2 (gdV wl_492 wl_489 wl_490 wl_491 wl_5) rfl rfl rfl hd_X4_allThought ⟨Nat.le_of_ble_eq_true rfl, Nat.le_of_ble_eq_true rfl⟩) 0 rfl rfl _ rg_C rg_n rfl rfl (Nat.le_of_ble_eq_true rfl) ⟨Nat.zero_le _, Nat.zero_le _⟩ dX4_twoWorth_45) 48 rfl ?_
    refine g_lmul C dX4_twoWorth_48 49 rfl ?_
    refine g_iload_n C dX4_twoWorth_49 rfl 50 rfl ?_
    obtain ⟨v5, hv5, hR⟩ := opt_b hR
    refine g_callLR C (rn_S C (k_X4_partOf l g v3.1 (100 * v4) p1 N_ v5 hv5) (va_cwS 3 C.1.2.2.2.2 (gdS wl_495 wl_493 wl_494 wl_5) rfl rfl rfl hd_X4_partOf.2 ⟨Nat.le_of_ble_eq_true rfl, Nat.le_of_ble_eq_true rfl⟩) [] rfl rfl rfl rfl (Nat.le_of_ble_eq_true rfl) ⟨Nat.zero_le _, Nat.zero_le _⟩ dX4_twoWorth_50) 53 rfl ?_
    obtain rfl := Option.some.inj hR
    exact g_lret C hr hlocks hA (by first | (dsimp only; done) | rfl) (by first | (dsimp only; done) | rfl) dX4_twoWorth_53
  · refine g_aload_n C dX4_twoWorth_11 rfl 12 rfl ?_
    refine g_iload_n C dX4_twoWorth_12 rfl 13 rfl ?_
    obtain ⟨v6, hv6, hR⟩ := opt_b hR
    refine g_callL C (rn_V C (k_X4_lowest l g b S (f_X4_notPart S p0 p1) N_ v6 hv6) (cwV 1 C.1.2.2.2.2 (gdV wl_462 wl_459 wl_460 wl_461 wl_5) rfl rfl rfl hd_X4_lowest ⟨Nat.le_of_ble_eq_true rfl, Nat.le_of_ble_eq_true rfl⟩) 0 rfl rfl _ rg_C rg_n rfl rfl (Nat.le_of_ble_eq_true rfl) ⟨Nat.zero_le _, Nat.zero_le _⟩ dX4_twoWorth_13) (wM g b v6.2) (rg_put (wM_len.trans wM_len.symm)) (rg_len (wM_len.trans wM_len.symm)) 16 rfl ?_
    obtain rfl := Option.some.inj hR
    exact g_lret C hr hlocks hA (by first | (dsimp only; done) | rfl) (by first | (dsimp only; done) | rfl) dX4_twoWorth_16
theorem hd_X4_allParts : yX4_allParts.cls = RX4 ∧ yX4_allParts.cls ≠ "java/lang/invoke/MethodHandle" ∧ yX4_allParts.cls ≠ "java/lang/invoke/VarHandle" ∧ (parseMethodDescriptor yX4_allParts.desc).map (fun d => d.parameters.length) = some 0 := by decide +kernel
def f_X4_allParts_L4 (S : (Nat → Nat → Int32) × (Nat → Nat → Int64)) (N_ : Nat) : Nat → Int64 → Int32 → Option (Int64 × Int32)
  | 0, _, _ => none
  | n_ + 1, x1, x3 =>
    if 5 ≤ x3 then
      some (x1, x3)
    else
      if x3 < 0 ∨ 5 ≤ (Int32.toNatClampNeg x3) then none else
      f_X4_allParts_L4 S N_ n_ (x1 + ((S.2 1) (Int32.toNatClampNeg x3))) (x3 + 1)
set_option maxRecDepth 100000 in
set_option maxHeartbeats 4000000 in
theorem k_X4_allParts_L4 (l : Launch) (g : gE) {p : Program} {e : Env} {s : State} {m : MethodId} {args : Array Value} {below : List Frame} {meth : Method} {c : Code} {Q : State → Prop} {A : Nat → Prop} {b : Nat → Nat}  (C : Cx p s m args c g A cX4_allParts 4 wA_X4_allParts RX4) (N_ : Nat) (S : (Nat → Nat → Int32) × (Nat → Nat → Int64)) : ∀ (n_ : Nat) (x1 : Int64) (x3 : Int32) (rv_ : Int64 × Int32), f_X4_allParts_L4 S N_ n_ x1 x3 = some rv_ → (Gm p l e (headSpec wA_X4_allParts ({ frames := 0, cells := 0, slots := 0, locals := 0 } : Room)).room s m args below meth c Q g A 4 0 0 (wM g b S) [some (.ref (b 0)), some (.long rv_.1), none, some (.int rv_.2)] [] 24) → Gm p l e (headSpec wA_X4_allParts ({ frames := 0, cells := 0, slots := 0, locals := 0 } : Room)).room s m args below meth c Q g A 4 0 0 (wM g b S) [some (.ref (b 0)), some (.long x1), none, some (.int x3)] [] 4 := by
  intro n_
  induction n_ with
  | zero =>
    intro x1 x3 rv_ hR
    simp [f_X4_allParts_L4] at hR
  | succ n_ ih =>
    intro x1 x3 rv_ hR hk
    rw [f_X4_allParts_L4] at hR
    refine g_iload_n C dX4_allParts_4 rfl 5 rfl ?_
    refine g_iconst C dX4_allParts_5 5 ic_5 6 rfl ?_
    refine g_icmp_ge C dX4_allParts_6 hR 24 9 (by decide) rfl (fun c_6 hR => ?_) (fun c_6 hR => ?_)
    · obtain rfl := Option.some.inj hR
      refine g_lv [some (.ref (b 0)), some (.long x1), none, some (.int x3)] (lvLe.sm (lvLe.sm (lvLe.nn (lvLe.sm lvLe.nil)))) ?_
      exact hk
    · refine g_lload_n C dX4_allParts_9 rfl 10 rfl ?_
      refine g_aload_n C dX4_allParts_10 rfl 11 rfl ?_
      refine g_get (v := .ref (b 18)) C (hiC hiA_4) 0 rfl rfl 26 (by decide) (List.mem_cons_of_mem _ wl_81) rfl rfl dX4_allParts_11 14 rfl ?_
      refine g_iload_n C dX4_allParts_14 rfl 15 rfl ?_
      obtain ⟨h_15, hR⟩ := opt_n hR
      refine g_lald (f := (S.2 1)) C 18 rfl h_15 dX4_allParts_15 16 rfl ?_
      refine g_ladd C dX4_allParts_16 17 rfl ?_
      refine g_lstore_n C dX4_allParts_17 [_, _, _, _] (Nat.le_of_ble_eq_true rfl) rfl rfl 18 rfl ?_
      refine g_iinc C dX4_allParts_18 rfl 1 ic_1 [_, _, _, _] (Nat.le_of_ble_eq_true rfl) rfl rfl 21 rfl ?_
      refine g_goto C dX4_allParts_21 4 (by decide) ?_
      refine g_lv [some (.ref (b 0)), some (.long (x1 + ((S.2 1) (Int32.toNatClampNeg x3)))), none, some (.int (x3 + 1))] (lvLe.sm (lvLe.sm (lvLe.nn (lvLe.sm lvLe.nil)))) ?_
      exact ih _ _ rv_ hR hk
def f_X4_allParts (S : (Nat → Nat → Int32) × (Nat → Nat → Int64)) (N_ : Nat) : Option (Int64) :=
  (f_X4_allParts_L4 S N_ N_ 0 0).bind fun v1 =>
  some v1.1
set_option maxRecDepth 100000 in
set_option maxHeartbeats 4000000 in
theorem k_X4_allParts (l : Launch) (g : gE) (b : Nat → Nat) (S : (Nat → Nat → Int32) × (Nat → Nat → Int64)) (N_ : Nat) (R_ : Int64) (hR : f_X4_allParts S N_ = some R_) : FnL l g yX4_allParts wA_X4_allParts { frames := 0, cells := 0, slots := 0, locals := 0 } [.ref (b 0)] (wM g b S) R_ (wM g b S) := by
  refine fEntry (As := [.ref (b 0)]) (maxL := 4) (ret := (some .long)) (by decide) rfl [some (.ref (b 0)), none, none, none] (Nat.le_of_ble_eq_true rfl) (lvInB.to (lvInB.sm (lvInB.nn (lvInB.nn (lvInB.nn lvInB.nil))))) ?_
  intro p e s m below meth c A C hr hlocks hname hA
  have C : Cx p s m _ c g A cX4_allParts 4 wA_X4_allParts RX4 := C
  rw [f_X4_allParts] at hR
  refine g_lconst C dX4_allParts_0 0 (by decide) 1 rfl ?_
  refine g_lstore_n C dX4_allParts_1 [_, _, _, _] (Nat.le_of_ble_eq_true rfl) rfl rfl 2 rfl ?_
  refine g_iconst C dX4_allParts_2 0 ic_0 3 rfl ?_
  refine g_istore_n C dX4_allParts_3 [_, _, _, _] (Nat.le_of_ble_eq_true rfl) rfl rfl 4 rfl ?_
  refine g_lv [some (.ref (b 0)), some (.long 0), none, some (.int 0)] (lvLe.sm (lvLe.sm (lvLe.nn (lvLe.sm lvLe.nil)))) ?_
  obtain ⟨v1, hv1, hR⟩ := opt_b hR
  refine k_X4_allParts_L4 l g C N_ S N_ 0 0 _ hv1 ?_
  refine g_lload_n C dX4_allParts_24 rfl 25 rfl ?_
  obtain rfl := Option.some.inj hR
  exact g_lret C hr hlocks hA (by first | (dsimp only; done) | rfl) (by first | (dsimp only; done) | rfl) dX4_allParts_25
theorem hd_X4_freeParts : yX4_freeParts.cls = RX4 ∧ yX4_freeParts.cls ≠ "java/lang/invoke/MethodHandle" ∧ yX4_freeParts.cls ≠ "java/lang/invoke/VarHandle" ∧ (parseMethodDescriptor yX4_freeParts.desc).map (fun d => d.parameters.length) = some 2 := by decide +kernel
def f_X4_freeParts_L47 (x2 : Int32) (N_ : Nat) : Nat → Int64 → Int32 → ((Nat → Nat → Int32) × (Nat → Nat → Int64)) → Option (Int64 × Int32 × ((Nat → Nat → Int32) × (Nat → Nat → Int64)))
  | 0, _, _, _ => none
  | n_ + 1, x6, x8, S =>
    if 4 ≤ x8 then
      some (x6, x8, S)
    else
      (f_X4_bestBehind_1 S x8 x2 N_).bind fun v10 =>
      if (v10.2.1 0 1) < 0 ∨ 5 ≤ (Int32.toNatClampNeg (v10.2.1 0 1)) then none else
      (f_X4_allParts v10.2 N_).bind fun v11 =>
      if x8 < 0 ∨ 4 ≤ (Int32.toNatClampNeg x8) then none else
      (some (((v10.1 * (Int32.toInt64 ((v10.2.1 4) (Int32.toNatClampNeg (v10.2.1 0 1))))) - ((10 * v11) * (Int32.toInt64 ((v10.2.1 6) (Int32.toNatClampNeg x8))))) : Int64)).bind fun v12 =>
      if (lg_cmp v12 x6) ≤ 0 then
        f_X4_freeParts_L47 x2 N_ n_ x6 (x8 + 1) v10.2
      else
        f_X4_freeParts_L47 x2 N_ n_ v12 (x8 + 1) v10.2
set_option maxRecDepth 100000 in
set_option maxHeartbeats 4000000 in
theorem k_X4_freeParts_L47 (l : Launch) (g : gE) {p : Program} {e : Env} {s : State} {m : MethodId} {args : Array Value} {below : List Frame} {meth : Method} {c : Code} {Q : State → Prop} {A : Nat → Prop} {b : Nat → Nat}  (C : Cx p s m args c g A cX4_freeParts 11 wA_X4_freeParts RX4) (N_ : Nat) (x1 : Int32) (x2 : Int32) (x3 : Int64) (x5 : Int32) : ∀ (n_ : Nat) (x6 : Int64) (x8 : Int32) (S : (Nat → Nat → Int32) × (Nat → Nat → Int64)) (rv_ : Int64 × Int32 × ((Nat → Nat → Int32) × (Nat → Nat → Int64))), f_X4_freeParts_L47 x2 N_ n_ x6 x8 S = some rv_ → (Gm p l e (headSpec wA_X4_freeParts ({ frames := 6, cells := 0, slots := 0, locals := 142 } : Room)).room s m args below meth c Q g A 11 0 0 (wM g b rv_.2.2) [some (.ref (b 0)), some (.int x1), some (.int x2), some (.long x3), none, some (.int x5), some (.long rv_.1), none, some (.int rv_.2.1), none, none] [] 118) → Gm p l e (headSpec wA_X4_freeParts ({ frames := 6, cells := 0, slots := 0, locals := 142 } : Room)).room s m args below meth c Q g A 11 0 0 (wM g b S) [some (.ref (b 0)), some (.int x1), some (.int x2), some (.long x3), none, some (.int x5), some (.long x6), none, some (.int x8), none, none] [] 47 := by
  intro n_
  induction n_ with
  | zero =>
    intro x6 x8 S rv_ hR
    simp [f_X4_freeParts_L47] at hR
  | succ n_ ih =>
    intro x6 x8 S rv_ hR hk
    rw [f_X4_freeParts_L47] at hR
    refine g_iload C dX4_freeParts_47 rfl 49 rfl ?_
    refine g_iconst C dX4_freeParts_49 4 ic_4 50 rfl ?_
    refine g_icmp_ge C dX4_freeParts_50 hR 118 53 (by decide) rfl (fun c_50 hR => ?_) (fun c_50 hR => ?_)
    · obtain rfl := Option.some.inj hR
      refine g_lv [some (.ref (b 0)), some (.int x1), some (.int x2), some (.long x3), none, some (.int x5), some (.long x6), none, some (.int x8), none, none] (lvLe.sm (lvLe.sm (lvLe.sm (lvLe.sm (lvLe.nn (lvLe.sm (lvLe.sm (lvLe.nn (lvLe.sm (lvLe.nn (lvLe.nn lvLe.nil))))))))))) ?_
      exact hk
    · refine g_aload_n C dX4_freeParts_53 rfl 54 rfl ?_
      refine g_aload_n C dX4_freeParts_54 rfl 55 rfl ?_
      refine g_get (v := .ref (b 18)) C (hiC hiA_4) 0 rfl rfl 26 (by decide) (List.mem_cons_of_mem _ wl_81) rfl rfl dX4_freeParts_55 58 rfl ?_
      refine g_iload C dX4_freeParts_58 rfl 60 rfl ?_
      refine g_iload_n C dX4_freeParts_60 rfl 61 rfl ?_
      obtain ⟨v10, hv10, hR⟩ := opt_b hR
      refine g_callL C (rn_V C (k_X4_bestBehind_1 l g b S x8 x2 N_ v10 hv10) (cwV 3 C.1.2.2.2.2 (gdV wl_613 wl_610 wl_611 wl_612 wl_5) rfl rfl rfl hd_X4_bestBehind ⟨Nat.le_of_ble_eq_true rfl, Nat.le_of_ble_eq_true rfl⟩) 0 rfl rfl _ rg_C rg_n rfl rfl (Nat.le_of_ble_eq_true rfl) ⟨Nat.zero_le _, Nat.zero_le _⟩ dX4_freeParts_61) (wM g b v10.2) (rg_put (wM_len.trans wM_len.symm)) (rg_len (wM_len.trans wM_len.symm)) 64 rfl ?_
      refine g_aload_n C dX4_freeParts_64 rfl 65 rfl ?_
      refine g_get (v := .ref (b 4)) C (hiC hiA_4) 0 rfl rfl 3 (by decide) (List.mem_cons_of_mem _ wl_69) rfl rfl dX4_freeParts_65 68 rfl ?_
      refine g_aload_n C dX4_freeParts_68 rfl 69 rfl ?_
      refine g_get (v := .int (v10.2.1 0 1)) C (hiC hiA_4) 0 rfl rfl 10 (by decide) (List.mem_cons_of_mem _ wl_240) rfl rfl dX4_freeParts_69 72 rfl ?_
      obtain ⟨h_72, hR⟩ := opt_n hR
      refine g_iald (f := (v10.2.1 4)) C 4 rfl h_72 dX4_freeParts_72 73 rfl ?_
      refine g_i2l C dX4_freeParts_73 74 rfl ?_
      refine g_lmul C dX4_freeParts_74 75 rfl ?_
      refine g_ldc2 C dX4_freeParts_75 (C.1.2.2.2.2 _ (List.mem_cons_of_mem _ wl_601)) 78 rfl ?_
      refine g_aload_n C dX4_freeParts_78 rfl 79 rfl ?_
      obtain ⟨v11, hv11, hR⟩ := opt_b hR
      refine g_callLR C (rn_V C (k_X4_allParts l g b v10.2 N_ v11 hv11) (cwV 0 C.1.2.2.2.2 (gdV wl_688 wl_685 wl_686 wl_687 wl_5) rfl rfl rfl hd_X4_allParts ⟨Nat.le_of_ble_eq_true rfl, Nat.le_of_ble_eq_true rfl⟩) 0 rfl rfl _ rg_C rg_n rfl rfl (Nat.le_of_ble_eq_true rfl) ⟨Nat.zero_le _, Nat.zero_le _⟩ dX4_freeParts_79) 82 rfl ?_
      refine g_lmul C dX4_freeParts_82 83 rfl ?_
      refine g_aload_n C dX4_freeParts_83 rfl 84 rfl ?_
      refine g_get (v := .ref (b 6)) C (hiC hiA_4) 0 rfl rfl 5 (by decide) (List.mem_cons_of_mem _ wl_71) rfl rfl dX4_freeParts_84 87 rfl ?_
      refine g_iload C dX4_freeParts_87 rfl 89 rfl ?_
      obtain ⟨h_89, hR⟩ := opt_n hR
      refine g_iald (f := (v10.2.1 6)) C 6 rfl h_89 dX4_freeParts_89 90 rfl ?_
      refine g_i2l C dX4_freeParts_90 91 rfl ?_
      refine g_lmul C dX4_freeParts_91 92 rfl ?_
      refine g_lsub C dX4_freeParts_92 93 rfl ?_
      obtain ⟨v12, hv12, hR⟩ := opt_b hR
      refine g_topL (Option.some.inj hv12) ?_
      refine g_lstore C dX4_freeParts_93 [_, _, _, _, _, _, _, _, _, _, _] (Nat.le_of_ble_eq_true rfl) rfl rfl 95 rfl ?_
      refine g_lload C dX4_freeParts_95 rfl 97 rfl ?_
      refine g_lload C dX4_freeParts_97 rfl 99 rfl ?_
      refine g_lcmp C dX4_freeParts_99 100 rfl ?_
      refine g_if_le C dX4_freeParts_100 hR 108 103 (by decide) rfl (fun c_100 hR => ?_) (fun c_100 hR => ?_)
      · refine g_lload C dX4_freeParts_108 rfl 110 rfl ?_
        refine g_lstore C dX4_freeParts_110 [_, _, _, _, _, _, _, _, _, _, _] (Nat.le_of_ble_eq_true rfl) rfl rfl 112 rfl ?_
        refine g_iinc C dX4_freeParts_112 rfl 1 ic_1 [_, _, _, _, _, _, _, _, _, _, _] (Nat.le_of_ble_eq_true rfl) rfl rfl 115 rfl ?_
        refine g_goto C dX4_freeParts_115 47 (by decide) ?_
        refine g_lv [some (.ref (b 0)), some (.int x1), some (.int x2), some (.long x3), none, some (.int x5), some (.long x6), none, some (.int (x8 + 1)), none, none] (lvLe.sm (lvLe.sm (lvLe.sm (lvLe.sm (lvLe.nn (lvLe.sm (lvLe.sm (lvLe.nn (lvLe.sm (lvLe.nn (lvLe.nn lvLe.nil))))))))))) ?_
        exact ih _ _ _ rv_ hR hk
      · refine g_lload C dX4_freeParts_103 rfl 105 rfl ?_
        refine g_goto C dX4_freeParts_105 110 (by decide) ?_
        refine g_lstore C dX4_freeParts_110 [_, _, _, _, _, _, _, _, _, _, _] (Nat.le_of_ble_eq_true rfl) rfl rfl 112 rfl ?_
        refine g_iinc C dX4_freeParts_112 rfl 1 ic_1 [_, _, _, _, _, _, _, _, _, _, _] (Nat.le_of_ble_eq_true rfl) rfl rfl 115 rfl ?_
        refine g_goto C dX4_freeParts_115 47 (by decide) ?_
        refine g_lv [some (.ref (b 0)), some (.int x1), some (.int x2), some (.long x3), none, some (.int x5), some (.long v12), none, some (.int (x8 + 1)), none, none] (lvLe.sm (lvLe.sm (lvLe.sm (lvLe.sm (lvLe.nn (lvLe.sm (lvLe.sm (lvLe.nn (lvLe.sm (lvLe.nn (lvLe.nn lvLe.nil))))))))))) ?_
        exact ih _ _ _ rv_ hR hk
def f_X4_freeParts_L5 (x1 : Int32) (x2 : Int32) (N_ : Nat) : Nat → Int64 → Int32 → ((Nat → Nat → Int32) × (Nat → Nat → Int64)) → Option (Int64 × Int32 × ((Nat → Nat → Int32) × (Nat → Nat → Int64)))
  | 0, _, _, _ => none
  | n_ + 1, x3, x5, S =>
    if 2 ≤ x5 then
      some (x3, x5, S)
    else
      (f_X4_laysParts S x1 x5 N_).bind fun v18 =>
      (f_X4_bestNet_1 v18 x2 N_).bind fun v19 =>
      if (v18.1 0 1) < 0 ∨ 5 ≤ (Int32.toNatClampNeg (v18.1 0 1)) then none else
      (some (((10 * v19) * (Int32.toInt64 ((v18.1 4) (Int32.toNatClampNeg (v18.1 0 1))))) : Int64)).bind fun v20 =>
      (f_X4_freeParts_L47 x2 N_ N_ v20 0 v18).bind fun v21 =>
      f_X4_freeParts_L5 x1 x2 N_ n_ (x3 + v21.1) (x5 + 1) v21.2.2
set_option maxRecDepth 100000 in
set_option maxHeartbeats 4000000 in
theorem k_X4_freeParts_L5 (l : Launch) (g : gE) {p : Program} {e : Env} {s : State} {m : MethodId} {args : Array Value} {below : List Frame} {meth : Method} {c : Code} {Q : State → Prop} {A : Nat → Prop} {b : Nat → Nat}  (C : Cx p s m args c g A cX4_freeParts 11 wA_X4_freeParts RX4) (N_ : Nat) (x1 : Int32) (x2 : Int32) : ∀ (n_ : Nat) (x3 : Int64) (x5 : Int32) (S : (Nat → Nat → Int32) × (Nat → Nat → Int64)) (rv_ : Int64 × Int32 × ((Nat → Nat → Int32) × (Nat → Nat → Int64))), f_X4_freeParts_L5 x1 x2 N_ n_ x3 x5 S = some rv_ → (Gm p l e (headSpec wA_X4_freeParts ({ frames := 6, cells := 0, slots := 0, locals := 142 } : Room)).room s m args below meth c Q g A 11 0 0 (wM g b rv_.2.2) [some (.ref (b 0)), some (.int x1), some (.int x2), some (.long rv_.1), none, some (.int rv_.2.1), none, none, none, none, none] [] 129) → Gm p l e (headSpec wA_X4_freeParts ({ frames := 6, cells := 0, slots := 0, locals := 142 } : Room)).room s m args below meth c Q g A 11 0 0 (wM g b S) [some (.ref (b 0)), some (.int x1), some (.int x2), some (.long x3), none, some (.int x5), none, none, none, none, none] [] 5 := by
  intro n_
  induction n_ with
  | zero =>
    intro x3 x5 S rv_ hR
    simp [f_X4_freeParts_L5] at hR
  | succ n_ ih =>
    intro x3 x5 S rv_ hR hk
    rw [f_X4_freeParts_L5] at hR
    refine g_iload C dX4_freeParts_5 rfl 7 rfl ?_
    refine g_iconst C dX4_freeParts_7 2 ic_2 8 rfl ?_
    refine g_icmp_ge C dX4_freeParts_8 hR 129 11 (by decide) rfl (fun c_8 hR => ?_) (fun c_8 hR => ?_)
    · obtain rfl := Option.some.inj hR
      refine g_lv [some (.ref (b 0)), some (.int x1), some (.int x2), some (.long x3), none, some (.int x5), none, none, none, none, none] (lvLe.sm (lvLe.sm (lvLe.sm (lvLe.sm (lvLe.nn (lvLe.sm (lvLe.nn (lvLe.nn (lvLe.nn (lvLe.nn (lvLe.nn lvLe.nil))))))))))) ?_
      exact hk
    · refine g_aload_n C dX4_freeParts_11 rfl 12 rfl ?_
      refine g_iload_n C dX4_freeParts_12 rfl 13 rfl ?_
      refine g_iload C dX4_freeParts_13 rfl 15 rfl ?_
      obtain ⟨v18, hv18, hR⟩ := opt_b hR
      refine g_callV C (rn_V C (k_X4_laysParts l g b S x1 x5 N_ v18 hv18) (cwV 2 C.1.2.2.2.2 (gdV wl_650 wl_647 wl_648 wl_649 wl_5) rfl rfl rfl hd_X4_laysParts ⟨Nat.le_of_ble_eq_true rfl, Nat.le_of_ble_eq_true rfl⟩) 0 rfl rfl _ rg_C rg_n rfl rfl (Nat.le_of_ble_eq_true rfl) ⟨Nat.zero_le _, Nat.zero_le _⟩ dX4_freeParts_15) (wM g b v18) (rg_put (wM_len.trans wM_len.symm)) (rg_len (wM_len.trans wM_len.symm)) 18 rfl ?_
      refine g_ldc2 C dX4_freeParts_18 (C.1.2.2.2.2 _ (List.mem_cons_of_mem _ wl_601)) 21 rfl ?_
      refine g_aload_n C dX4_freeParts_21 rfl 22 rfl ?_
      refine g_aload_n C dX4_freeParts_22 rfl 23 rfl ?_
      refine g_get (v := .ref (b 18)) C (hiC hiA_4) 0 rfl rfl 26 (by decide) (List.mem_cons_of_mem _ wl_81) rfl rfl dX4_freeParts_23 26 rfl ?_
      refine g_iload_n C dX4_freeParts_26 rfl 27 rfl ?_
      obtain ⟨v19, hv19, hR⟩ := opt_b hR
      refine g_callLR C (rn_V C (k_X4_bestNet_1 l g b v18 x2 N_ v19 hv19) (cwV 2 C.1.2.2.2.2 (gdV wl_609 wl_606 wl_607 wl_608 wl_5) rfl rfl rfl hd_X4_bestNet ⟨Nat.le_of_ble_eq_true rfl, Nat.le_of_ble_eq_true rfl⟩) 0 rfl rfl _ rg_C rg_n rfl rfl (Nat.le_of_ble_eq_true rfl) ⟨Nat.zero_le _, Nat.zero_le _⟩ dX4_freeParts_27) 30 rfl ?_
      refine g_lmul C dX4_freeParts_30 31 rfl ?_
      refine g_aload_n C dX4_freeParts_31 rfl 32 rfl ?_
      refine g_get (v := .ref (b 4)) C (hiC hiA_4) 0 rfl rfl 3 (by decide) (List.mem_cons_of_mem _ wl_69) rfl rfl dX4_freeParts_32 35 rfl ?_
      refine g_aload_n C dX4_freeParts_35 rfl 36 rfl ?_
      refine g_get (v := .int (v18.1 0 1)) C (hiC hiA_4) 0 rfl rfl 10 (by decide) (List.mem_cons_of_mem _ wl_240) rfl rfl dX4_freeParts_36 39 rfl ?_
      obtain ⟨h_39, hR⟩ := opt_n hR
      refine g_iald (f := (v18.1 4)) C 4 rfl h_39 dX4_freeParts_39 40 rfl ?_
      refine g_i2l C dX4_freeParts_40 41 rfl ?_
      refine g_lmul C dX4_freeParts_41 42 rfl ?_
      obtain ⟨v20, hv20, hR⟩ := opt_b hR
      refine g_topL (Option.some.inj hv20) ?_
      refine g_lstore C dX4_freeParts_42 [_, _, _, _, _, _, _, _, _, _, _] (Nat.le_of_ble_eq_true rfl) rfl rfl 44 rfl ?_
      refine g_iconst C dX4_freeParts_44 0 ic_0 45 rfl ?_
      refine g_istore C dX4_freeParts_45 [_, _, _, _, _, _, _, _, _, _, _] (Nat.le_of_ble_eq_true rfl) rfl rfl 47 rfl ?_
      refine g_lv [some (.ref (b 0)), some (.int x1), some (.int x2), some (.long x3), none, some (.int x5), some (.long v20), none, some (.int 0), none, none] (lvLe.sm (lvLe.sm (lvLe.sm (lvLe.sm (lvLe.nn (lvLe.sm (lvLe.sm (lvLe.nn (lvLe.sm (lvLe.nn (lvLe.nn lvLe.nil))))))))))) ?_
      obtain ⟨v21, hv21, hR⟩ := opt_b hR
      refine k_X4_freeParts_L47 l g C N_ x1 x2 x3 x5 N_ v20 0 v18 _ hv21 ?_
      refine g_lload_n C dX4_freeParts_118 rfl 119 rfl ?_
      refine g_lload C dX4_freeParts_119 rfl 121 rfl ?_
      refine g_ladd C dX4_freeParts_121 122 rfl ?_
      refine g_lstore_n C dX4_freeParts_122 [_, _, _, _, _, _, _, _, _, _, _] (Nat.le_of_ble_eq_true rfl) rfl rfl 123 rfl ?_
      refine g_iinc C dX4_freeParts_123 rfl 1 ic_1 [_, _, _, _, _, _, _, _, _, _, _] (Nat.le_of_ble_eq_true rfl) rfl rfl 126 rfl ?_
      refine g_goto C dX4_freeParts_126 5 (by decide) ?_
      refine g_lv [some (.ref (b 0)), some (.int x1), some (.int x2), some (.long (x3 + v21.1)), none, some (.int (x5 + 1)), none, none, none, none, none] (lvLe.sm (lvLe.sm (lvLe.sm (lvLe.sm (lvLe.nn (lvLe.sm (lvLe.nn (lvLe.nn (lvLe.nn (lvLe.nn (lvLe.nn lvLe.nil))))))))))) ?_
      exact ih _ _ _ rv_ hR hk
def f_X4_freeParts (S : (Nat → Nat → Int32) × (Nat → Nat → Int64)) (p0 : Int32) (p1 : Int32) (N_ : Nat) : Option (Int64 × ((Nat → Nat → Int32) × (Nat → Nat → Int64))) :=
  (f_X4_freeParts_L5 p0 p1 N_ N_ 0 0 S).bind fun v22 =>
  (f_X4_bestNet_0 v22.2.2 p1 N_).bind fun v23 =>
  if (v22.2.2.1 0 1) < 0 ∨ 5 ≤ (Int32.toNatClampNeg (v22.2.2.1 0 1)) then none else
  (f_X4_allThought v22.2.2 N_).bind fun v24 =>
  if p0 < 0 ∨ 4 ≤ (Int32.toNatClampNeg p0) then none else
  some (((v22.1 - ((100 * v23) * (Int32.toInt64 ((v22.2.2.1 4) (Int32.toNatClampNeg (v22.2.2.1 0 1)))))) - ((100 * v24) * (Int32.toInt64 ((v22.2.2.1 6) (Int32.toNatClampNeg p0))))), v22.2.2)
set_option maxRecDepth 100000 in
set_option maxHeartbeats 4000000 in
theorem k_X4_freeParts (l : Launch) (g : gE) (b : Nat → Nat) (S : (Nat → Nat → Int32) × (Nat → Nat → Int64)) (p0 : Int32) (p1 : Int32) (N_ : Nat) (R_ : Int64 × ((Nat → Nat → Int32) × (Nat → Nat → Int64))) (hR : f_X4_freeParts S p0 p1 N_ = some R_) : FnL l g yX4_freeParts wA_X4_freeParts { frames := 6, cells := 0, slots := 0, locals := 142 } [.ref (b 0), .int p0, .int p1] (wM g b S) R_.1 (wM g b R_.2) := by
  refine fEntry (As := [.ref (b 0), .int p0, .int p1]) (maxL := 11) (ret := (some .long)) (by decide) rfl [some (.ref (b 0)), some (.int p0), some (.int p1), none, none, none, none, none, none, none, none] (Nat.le_of_ble_eq_true rfl) (lvInB.to (lvInB.sm (lvInB.sm (lvInB.sm (lvInB.nn (lvInB.nn (lvInB.nn (lvInB.nn (lvInB.nn (lvInB.nn (lvInB.nn (lvInB.nn lvInB.nil)))))))))))) ?_
  intro p e s m below meth c A C hr hlocks hname hA
  have C : Cx p s m _ c g A cX4_freeParts 11 wA_X4_freeParts RX4 := C
  rw [f_X4_freeParts] at hR
  refine g_lconst C dX4_freeParts_0 0 (by decide) 1 rfl ?_
  refine g_lstore_n C dX4_freeParts_1 [_, _, _, _, _, _, _, _, _, _, _] (Nat.le_of_ble_eq_true rfl) rfl rfl 2 rfl ?_
  refine g_iconst C dX4_freeParts_2 0 ic_0 3 rfl ?_
  refine g_istore C dX4_freeParts_3 [_, _, _, _, _, _, _, _, _, _, _] (Nat.le_of_ble_eq_true rfl) rfl rfl 5 rfl ?_
  refine g_lv [some (.ref (b 0)), some (.int p0), some (.int p1), some (.long 0), none, some (.int 0), none, none, none, none, none] (lvLe.sm (lvLe.sm (lvLe.sm (lvLe.sm (lvLe.nn (lvLe.sm (lvLe.nn (lvLe.nn (lvLe.nn (lvLe.nn (lvLe.nn lvLe.nil))))))))))) ?_
  obtain ⟨v22, hv22, hR⟩ := opt_b hR
  refine k_X4_freeParts_L5 l g C N_ p0 p1 N_ 0 0 S _ hv22 ?_
  refine g_lload_n C dX4_freeParts_129 rfl 130 rfl ?_
  refine g_ldc2 C dX4_freeParts_130 (C.1.2.2.2.2 _ (List.mem_cons_of_mem _ wl_646)) 133 rfl ?_
  refine g_aload_n C dX4_freeParts_133 rfl 134 rfl ?_
  refine g_aload_n C dX4_freeParts_134 rfl 135 rfl ?_
  refine g_get (v := .ref (b 17)) C (hiC hiA_4) 0 rfl rfl 25 (by decide) (List.mem_cons_of_mem _ wl_80) rfl rfl dX4_freeParts_135 138 rfl ?_
  refine g_iload_n C dX4_freeParts_138 rfl 139 rfl ?_
  obtain ⟨v23, hv23, hR⟩ := opt_b hR
  refine g_callLR C (rn_V C (k_X4_bestNet_0 l g b v22.2.2 p1 N_ v23 hv23) (cwV 2 C.1.2.2.2.2 (gdV wl_609 wl_606 wl_607 wl_608 wl_5) rfl rfl rfl hd_X4_bestNet ⟨Nat.le_of_ble_eq_true rfl, Nat.le_of_ble_eq_true rfl⟩) 0 rfl rfl _ rg_C rg_n rfl rfl (Nat.le_of_ble_eq_true rfl) ⟨Nat.zero_le _, Nat.zero_le _⟩ dX4_freeParts_139) 142 rfl ?_
  refine g_lmul C dX4_freeParts_142 143 rfl ?_
  refine g_aload_n C dX4_freeParts_143 rfl 144 rfl ?_
  refine g_get (v := .ref (b 4)) C (hiC hiA_4) 0 rfl rfl 3 (by decide) (List.mem_cons_of_mem _ wl_69) rfl rfl dX4_freeParts_144 147 rfl ?_
  refine g_aload_n C dX4_freeParts_147 rfl 148 rfl ?_
  refine g_get (v := .int (v22.2.2.1 0 1)) C (hiC hiA_4) 0 rfl rfl 10 (by decide) (List.mem_cons_of_mem _ wl_240) rfl rfl dX4_freeParts_148 151 rfl ?_
  obtain ⟨h_151, hR⟩ := opt_n hR
  refine g_iald (f := (v22.2.2.1 4)) C 4 rfl h_151 dX4_freeParts_151 152 rfl ?_
  refine g_i2l C dX4_freeParts_152 153 rfl ?_
  refine g_lmul C dX4_freeParts_153 154 rfl ?_
  refine g_lsub C dX4_freeParts_154 155 rfl ?_
  refine g_ldc2 C dX4_freeParts_155 (C.1.2.2.2.2 _ (List.mem_cons_of_mem _ wl_646)) 158 rfl ?_
  refine g_aload_n C dX4_freeParts_158 rfl 159 rfl ?_
  obtain ⟨v24, hv24, hR⟩ := opt_b hR
  refine g_callLR C (rn_V C (k_X4_allThought l g b v22.2.2 N_ v24 hv24) (cwV 0 C.1.2.2.2.2 (gdV wl_492 wl_489 wl_490 wl_491 wl_5) rfl rfl rfl hd_X4_allThought ⟨Nat.le_of_ble_eq_true rfl, Nat.le_of_ble_eq_true rfl⟩) 0 rfl rfl _ rg_C rg_n rfl rfl (Nat.le_of_ble_eq_true rfl) ⟨Nat.zero_le _, Nat.zero_le _⟩ dX4_freeParts_159) 162 rfl ?_
  refine g_lmul C dX4_freeParts_162 163 rfl ?_
  refine g_aload_n C dX4_freeParts_163 rfl 164 rfl ?_
  refine g_get (v := .ref (b 6)) C (hiC hiA_4) 0 rfl rfl 5 (by decide) (List.mem_cons_of_mem _ wl_71) rfl rfl dX4_freeParts_164 167 rfl ?_
  refine g_iload_n C dX4_freeParts_167 rfl 168 rfl ?_
  obtain ⟨h_168, hR⟩ := opt_n hR
  refine g_iald (f := (v22.2.2.1 6)) C 6 rfl h_168 dX4_freeParts_168 169 rfl ?_
  refine g_i2l C dX4_freeParts_169 170 rfl ?_
  refine g_lmul C dX4_freeParts_170 171 rfl ?_
  refine g_lsub C dX4_freeParts_171 172 rfl ?_
  obtain rfl := Option.some.inj hR
  exact g_lret C hr hlocks hA (by first | (dsimp only; done) | rfl) (by first | (dsimp only; done) | rfl) dX4_freeParts_172
theorem hd_X4_bestFree : yX4_bestFree.cls = RX4 ∧ yX4_bestFree.cls ≠ "java/lang/invoke/MethodHandle" ∧ yX4_bestFree.cls ≠ "java/lang/invoke/VarHandle" ∧ (parseMethodDescriptor yX4_bestFree.desc).map (fun d => d.parameters.length) = some 1 := by decide +kernel
def f_X4_bestFree_L4 (x1 : Int32) (N_ : Nat) : Nat → Int32 → Int32 → ((Nat → Nat → Int32) × (Nat → Nat → Int64)) → Option (Int32 × Int32 × ((Nat → Nat → Int32) × (Nat → Nat → Int64)))
  | 0, _, _, _ => none
  | n_ + 1, x2, x3, S =>
    if 4 ≤ x3 then
      some (x2, x3, S)
    else
      (f_X4_freeParts S x3 x1 N_).bind fun v5 =>
      (f_X4_freeParts v5.2 x2 x1 N_).bind fun v6 =>
      if (lg_cmp v5.1 v6.1) ≤ 0 then
        f_X4_bestFree_L4 x1 N_ n_ x2 (x3 + 1) v6.2
      else
        f_X4_bestFree_L4 x1 N_ n_ x3 (x3 + 1) v6.2
set_option maxRecDepth 100000 in
set_option maxHeartbeats 4000000 in
theorem k_X4_bestFree_L4 (l : Launch) (g : gE) {p : Program} {e : Env} {s : State} {m : MethodId} {args : Array Value} {below : List Frame} {meth : Method} {c : Code} {Q : State → Prop} {A : Nat → Prop} {b : Nat → Nat}  (C : Cx p s m args c g A cX4_bestFree 4 wA_X4_bestFree RX4) (N_ : Nat) (x1 : Int32) : ∀ (n_ : Nat) (x2 : Int32) (x3 : Int32) (S : (Nat → Nat → Int32) × (Nat → Nat → Int64)) (rv_ : Int32 × Int32 × ((Nat → Nat → Int32) × (Nat → Nat → Int64))), f_X4_bestFree_L4 x1 N_ n_ x2 x3 S = some rv_ → (Gm p l e (headSpec wA_X4_bestFree ({ frames := 7, cells := 0, slots := 0, locals := 172 } : Room)).room s m args below meth c Q g A 4 0 0 (wM g b rv_.2.2) [some (.ref (b 0)), some (.int x1), some (.int rv_.1), some (.int rv_.2.1)] [] 37) → Gm p l e (headSpec wA_X4_bestFree ({ frames := 7, cells := 0, slots := 0, locals := 172 } : Room)).room s m args below meth c Q g A 4 0 0 (wM g b S) [some (.ref (b 0)), some (.int x1), some (.int x2), some (.int x3)] [] 4 := by
  intro n_
  induction n_ with
  | zero =>
    intro x2 x3 S rv_ hR
    simp [f_X4_bestFree_L4] at hR
  | succ n_ ih =>
    intro x2 x3 S rv_ hR hk
    rw [f_X4_bestFree_L4] at hR
    refine g_iload_n C dX4_bestFree_4 rfl 5 rfl ?_
    refine g_iconst C dX4_bestFree_5 4 ic_4 6 rfl ?_
    refine g_icmp_ge C dX4_bestFree_6 hR 37 9 (by decide) rfl (fun c_6 hR => ?_) (fun c_6 hR => ?_)
    · obtain rfl := Option.some.inj hR
      refine g_lv [some (.ref (b 0)), some (.int x1), some (.int x2), some (.int x3)] (lvLe.sm (lvLe.sm (lvLe.sm (lvLe.sm lvLe.nil)))) ?_
      exact hk
    · refine g_aload_n C dX4_bestFree_9 rfl 10 rfl ?_
      refine g_iload_n C dX4_bestFree_10 rfl 11 rfl ?_
      refine g_iload_n C dX4_bestFree_11 rfl 12 rfl ?_
      obtain ⟨v5, hv5, hR⟩ := opt_b hR
      refine g_callL C (rn_V C (k_X4_freeParts l g b S x3 x1 N_ v5 hv5) (cwV 2 C.1.2.2.2.2 (gdV wl_684 wl_681 wl_682 wl_683 wl_5) rfl rfl rfl hd_X4_freeParts ⟨Nat.le_of_ble_eq_true rfl, Nat.le_of_ble_eq_true rfl⟩) 0 rfl rfl _ rg_C rg_n rfl rfl (Nat.le_of_ble_eq_true rfl) ⟨Nat.zero_le _, Nat.zero_le _⟩ dX4_bestFree_12) (wM g b v5.2) (rg_put (wM_len.trans wM_len.symm)) (rg_len (wM_len.trans wM_len.symm)) 15 rfl ?_
      refine g_aload_n C dX4_bestFree_15 rfl 16 rfl ?_
      refine g_iload_n C dX4_bestFree_16 rfl 17 rfl ?_
      refine g_iload_n C dX4_bestFree_17 rfl 18 rfl ?_
      obtain ⟨v6, hv6, hR⟩ := opt_b hR
      refine g_callL C (rn_V C (k_X4_freeParts l g b v5.2 x2 x1 N_ v6 hv6) (cwV 2 C.1.2.2.2.2 (gdV wl_684 wl_681 wl_682 wl_683 wl_5) rfl rfl rfl hd_X4_freeParts ⟨Nat.le_of_ble_eq_true rfl, Nat.le_of_ble_eq_true rfl⟩) 0 rfl rfl _ rg_C rg_n rfl rfl (Nat.le_of_ble_eq_true rfl) ⟨Nat.zero_le _, Nat.zero_le _⟩ dX4_bestFree_18) (wM g b v6.2) (rg_put (wM_len.trans wM_len.symm)) (rg_len (wM_len.trans wM_len.symm)) 21 rfl ?_
      refine g_lcmp C dX4_bestFree_21 22 rfl ?_
      refine g_if_le C dX4_bestFree_22 hR 29 25 (by decide) rfl (fun c_22 hR => ?_) (fun c_22 hR => ?_)
      · refine g_iload_n C dX4_bestFree_29 rfl 30 rfl ?_
        refine g_istore_n C dX4_bestFree_30 [_, _, _, _] (Nat.le_of_ble_eq_true rfl) rfl rfl 31 rfl ?_
        refine g_iinc C dX4_bestFree_31 rfl 1 ic_1 [_, _, _, _] (Nat.le_of_ble_eq_true rfl) rfl rfl 34 rfl ?_
        refine g_goto C dX4_bestFree_34 4 (by decide) ?_
        refine g_lv [some (.ref (b 0)), some (.int x1), some (.int x2), some (.int (x3 + 1))] (lvLe.sm (lvLe.sm (lvLe.sm (lvLe.sm lvLe.nil)))) ?_
        exact ih _ _ _ rv_ hR hk
      · refine g_iload_n C dX4_bestFree_25 rfl 26 rfl ?_
        refine g_goto C dX4_bestFree_26 30 (by decide) ?_
        refine g_istore_n C dX4_bestFree_30 [_, _, _, _] (Nat.le_of_ble_eq_true rfl) rfl rfl 31 rfl ?_
        refine g_iinc C dX4_bestFree_31 rfl 1 ic_1 [_, _, _, _] (Nat.le_of_ble_eq_true rfl) rfl rfl 34 rfl ?_
        refine g_goto C dX4_bestFree_34 4 (by decide) ?_
        refine g_lv [some (.ref (b 0)), some (.int x1), some (.int x3), some (.int (x3 + 1))] (lvLe.sm (lvLe.sm (lvLe.sm (lvLe.sm lvLe.nil)))) ?_
        exact ih _ _ _ rv_ hR hk
def f_X4_bestFree (S : (Nat → Nat → Int32) × (Nat → Nat → Int64)) (p0 : Int32) (N_ : Nat) : Option (Int32 × ((Nat → Nat → Int32) × (Nat → Nat → Int64))) :=
  (f_X4_bestFree_L4 p0 N_ N_ 0 1 S).bind fun v7 =>
  some (v7.1, v7.2.2)
set_option maxRecDepth 100000 in
set_option maxHeartbeats 4000000 in
theorem k_X4_bestFree (l : Launch) (g : gE) (b : Nat → Nat) (S : (Nat → Nat → Int32) × (Nat → Nat → Int64)) (p0 : Int32) (N_ : Nat) (R_ : Int32 × ((Nat → Nat → Int32) × (Nat → Nat → Int64))) (hR : f_X4_bestFree S p0 N_ = some R_) : FnI l g yX4_bestFree wA_X4_bestFree { frames := 7, cells := 0, slots := 0, locals := 172 } [.ref (b 0), .int p0] (wM g b S) R_.1 (wM g b R_.2) := by
  refine fEntry (As := [.ref (b 0), .int p0]) (maxL := 4) (ret := (some .int)) (by decide) rfl [some (.ref (b 0)), some (.int p0), none, none] (Nat.le_of_ble_eq_true rfl) (lvInB.to (lvInB.sm (lvInB.sm (lvInB.nn (lvInB.nn lvInB.nil))))) ?_
  intro p e s m below meth c A C hr hlocks hname hA
  have C : Cx p s m _ c g A cX4_bestFree 4 wA_X4_bestFree RX4 := C
  rw [f_X4_bestFree] at hR
  refine g_iconst C dX4_bestFree_0 0 ic_0 1 rfl ?_
  refine g_istore_n C dX4_bestFree_1 [_, _, _, _] (Nat.le_of_ble_eq_true rfl) rfl rfl 2 rfl ?_
  refine g_iconst C dX4_bestFree_2 1 ic_1 3 rfl ?_
  refine g_istore_n C dX4_bestFree_3 [_, _, _, _] (Nat.le_of_ble_eq_true rfl) rfl rfl 4 rfl ?_
  refine g_lv [some (.ref (b 0)), some (.int p0), some (.int 0), some (.int 1)] (lvLe.sm (lvLe.sm (lvLe.sm (lvLe.sm lvLe.nil)))) ?_
  obtain ⟨v7, hv7, hR⟩ := opt_b hR
  refine k_X4_bestFree_L4 l g C N_ p0 N_ 0 1 S _ hv7 ?_
  refine g_iload_n C dX4_bestFree_37 rfl 38 rfl ?_
  obtain rfl := Option.some.inj hR
  exact g_iret C hr hlocks hA (by first | (dsimp only; done) | rfl) (by first | (dsimp only; done) | rfl) dX4_bestFree_38
theorem hd_X4_free : yX4_free.cls = RX4 ∧ yX4_free.cls ≠ "java/lang/invoke/MethodHandle" ∧ yX4_free.cls ≠ "java/lang/invoke/VarHandle" ∧ (parseMethodDescriptor yX4_free.desc).map (fun d => d.parameters.length) = some 1 := by decide +kernel
def f_X4_free (S : (Nat → Nat → Int32) × (Nat → Nat → Int64)) (p0 : Int32) (N_ : Nat) : Option (Int32 × ((Nat → Nat → Int32) × (Nat → Nat → Int64))) :=
  if (f_X4_notBest S p0) = 0 then
    (f_X4_findThought S N_).bind fun v1 =>
    (f_X4_bestFree v1 p0 N_).bind fun v2 =>
    some (v2.1, v2.2)
  else
    (f_X4_no S (f_X4_notBest S p0) N_).bind fun v3 =>
    some (v3.1, v3.2)
set_option maxRecDepth 100000 in
set_option maxHeartbeats 4000000 in
theorem k_X4_free (l : Launch) (g : gE) (b : Nat → Nat) (S : (Nat → Nat → Int32) × (Nat → Nat → Int64)) (p0 : Int32) (N_ : Nat) (R_ : Int32 × ((Nat → Nat → Int32) × (Nat → Nat → Int64))) (hR : f_X4_free S p0 N_ = some R_) : FnI l g yX4_free wA_X4_free { frames := 8, cells := 0, slots := 0, locals := 195 } [.ref (b 0), .int p0] (wM g b S) R_.1 (wM g b R_.2) := by
  refine fEntry (As := [.ref (b 0), .int p0]) (maxL := 3) (ret := (some .int)) (by decide) rfl [some (.ref (b 0)), some (.int p0), none] (Nat.le_of_ble_eq_true rfl) (lvInB.to (lvInB.sm (lvInB.sm (lvInB.nn lvInB.nil)))) ?_
  intro p e s m below meth c A C hr hlocks hname hA
  have C : Cx p s m _ c g A cX4_free 3 wA_X4_free RX4 := C
  rw [f_X4_free] at hR
  refine g_aload_n C dX4_free_0 rfl 1 rfl ?_
  refine g_iload_n C dX4_free_1 rfl 2 rfl ?_
  refine g_callIR C (rn_V C (k_X4_notBest l g b S p0) (cwV 1 C.1.2.2.2.2 (gdV wl_558 wl_555 wl_556 wl_557 wl_5) rfl rfl rfl hd_X4_notBest ⟨Nat.le_of_ble_eq_true rfl, Nat.le_of_ble_eq_true rfl⟩) 0 rfl rfl _ rg_C rg_n rfl rfl (Nat.le_of_ble_eq_true rfl) ⟨Nat.zero_le _, Nat.zero_le _⟩ dX4_free_2) 5 rfl ?_
  refine g_istore_n C dX4_free_5 [_, _, _] (Nat.le_of_ble_eq_true rfl) rfl rfl 6 rfl ?_
  refine g_iload_n C dX4_free_6 rfl 7 rfl ?_
  refine g_if_eq C dX4_free_7 hR 16 10 (by decide) rfl (fun c_7 hR => ?_) (fun c_7 hR => ?_)
  · refine g_aload_n C dX4_free_16 rfl 17 rfl ?_
    obtain ⟨v1, hv1, hR⟩ := opt_b hR
    refine g_callV C (rn_V C (k_X4_findThought l g b S N_ v1 hv1) (cwV 0 C.1.2.2.2.2 (gdV wl_467 wl_464 wl_465 wl_466 wl_5) rfl rfl rfl hd_X4_findThought ⟨Nat.le_of_ble_eq_true rfl, Nat.le_of_ble_eq_true rfl⟩) 0 rfl rfl _ rg_C rg_n rfl rfl (Nat.le_of_ble_eq_true rfl) ⟨Nat.zero_le _, Nat.zero_le _⟩ dX4_free_17) (wM g b v1) (rg_put (wM_len.trans wM_len.symm)) (rg_len (wM_len.trans wM_len.symm)) 20 rfl ?_
    refine g_aload_n C dX4_free_20 rfl 21 rfl ?_
    refine g_iload_n C dX4_free_21 rfl 22 rfl ?_
    obtain ⟨v2, hv2, hR⟩ := opt_b hR
    refine g_callI C (rn_V C (k_X4_bestFree l g b v1 p0 N_ v2 hv2) (cwV 1 C.1.2.2.2.2 (gdV wl_680 wl_677 wl_678 wl_679 wl_5) rfl rfl rfl hd_X4_bestFree ⟨Nat.le_of_ble_eq_true rfl, Nat.le_of_ble_eq_true rfl⟩) 0 rfl rfl _ rg_C rg_n rfl rfl (Nat.le_of_ble_eq_true rfl) ⟨Nat.zero_le _, Nat.zero_le _⟩ dX4_free_22) (wM g b v2.2) (rg_put (wM_len.trans wM_len.symm)) (rg_len (wM_len.trans wM_len.symm)) 25 rfl ?_
    obtain rfl := Option.some.inj hR
    exact g_iret C hr hlocks hA (by first | (dsimp only; done) | rfl) (by first | (dsimp only; done) | rfl) dX4_free_25
  · refine g_aload_n C dX4_free_10 rfl 11 rfl ?_
    refine g_iload_n C dX4_free_11 rfl 12 rfl ?_
    obtain ⟨v3, hv3, hR⟩ := opt_b hR
    refine g_callI C (rn_V C (k_X4_no l g b S (f_X4_notBest S p0) N_ v3 hv3) (cwV 1 C.1.2.2.2.2 (gdV wl_111 wl_108 wl_109 wl_110 wl_5) rfl rfl rfl hd_X4_no ⟨Nat.le_of_ble_eq_true rfl, Nat.le_of_ble_eq_true rfl⟩) 0 rfl rfl _ rg_C rg_n rfl rfl (Nat.le_of_ble_eq_true rfl) ⟨Nat.zero_le _, Nat.zero_le _⟩ dX4_free_12) (wM g b v3.2) (rg_put (wM_len.trans wM_len.symm)) (rg_len (wM_len.trans wM_len.symm)) 15 rfl ?_
    obtain rfl := Option.some.inj hR
    exact g_iret C hr hlocks hA (by first | (dsimp only; done) | rfl) (by first | (dsimp only; done) | rfl) dX4_free_15
theorem hd_X4_freeWorth : yX4_freeWorth.cls = RX4 ∧ yX4_freeWorth.cls ≠ "java/lang/invoke/MethodHandle" ∧ yX4_freeWorth.cls ≠ "java/lang/invoke/VarHandle" ∧ (parseMethodDescriptor yX4_freeWorth.desc).map (fun d => d.parameters.length) = some 2 := by decide +kernel
def f_X4_freeWorth (S : (Nat → Nat → Int32) × (Nat → Nat → Int64)) (p0 : Int32) (p1 : Int32) (N_ : Nat) : Option (Int64 × ((Nat → Nat → Int32) × (Nat → Nat → Int64))) :=
  if (f_X4_notPart S p0 p1) = 0 then
    (f_X4_findThought S N_).bind fun v1 =>
    (f_X4_bestFree v1 p0 N_).bind fun v2 =>
    (f_X4_freeParts v2.2 v2.1 p0 N_).bind fun v3 =>
    (f_X4_allThought v3.2 N_).bind fun v4 =>
    (f_X4_partOf v3.1 (100 * v4) p1 N_).bind fun v5 =>
    some (v5, v3.2)
  else
    (f_X4_lowest S (f_X4_notPart S p0 p1) N_).bind fun v6 =>
    some (v6.1, v6.2)
set_option maxRecDepth 100000 in
set_option maxHeartbeats 4000000 in
theorem k_X4_freeWorth (l : Launch) (g : gE) (b : Nat → Nat) (S : (Nat → Nat → Int32) × (Nat → Nat → Int64)) (p0 : Int32) (p1 : Int32) (N_ : Nat) (R_ : Int64 × ((Nat → Nat → Int32) × (Nat → Nat → Int64))) (hR : f_X4_freeWorth S p0 p1 N_ = some R_) : FnL l g yX4_freeWorth wA_X4_freeWorth { frames := 8, cells := 0, slots := 0, locals := 195 } [.ref (b 0), .int p0, .int p1] (wM g b S) R_.1 (wM g b R_.2) := by
  refine fEntry (As := [.ref (b 0), .int p0, .int p1]) (maxL := 4) (ret := (some .long)) (by decide) rfl [some (.ref (b 0)), some (.int p0), some (.int p1), none] (Nat.le_of_ble_eq_true rfl) (lvInB.to (lvInB.sm (lvInB.sm (lvInB.sm (lvInB.nn lvInB.nil))))) ?_
  intro p e s m below meth c A C hr hlocks hname hA
  have C : Cx p s m _ c g A cX4_freeWorth 4 wA_X4_freeWorth RX4 := C
  rw [f_X4_freeWorth] at hR
  refine g_aload_n C dX4_freeWorth_0 rfl 1 rfl ?_
  refine g_iload_n C dX4_freeWorth_1 rfl 2 rfl ?_
  refine g_iload_n C dX4_freeWorth_2 rfl 3 rfl ?_
  refine g_callIR C (rn_V C (k_X4_notPart l g b S p0 p1) (cwV 2 C.1.2.2.2.2 (gdV wl_664 wl_661 wl_662 wl_663 wl_5) rfl rfl rfl hd_X4_notPart ⟨Nat.le_of_ble_eq_true rfl, Nat.le_of_ble_eq_true rfl⟩) 0 rfl rfl _ rg_C rg_n rfl rfl (Nat.le_of_ble_eq_true rfl) ⟨Nat.zero_le _, Nat.zero_le _⟩ dX4_freeWorth_3) 6 rfl ?_
  refine g_istore_n C dX4_freeWorth_6 [_, _, _, _] (Nat.le_of_ble_eq_true rfl) rfl rfl 7 rfl ?_
  refine g_iload_n C dX4_freeWorth_7 rfl 8 rfl ?_
  refine g_if_eq C dX4_freeWorth_8 hR 17 11 (by decide) rfl (fun c_8 hR => ?_) (fun c_8 hR => ?_)
  · refine g_aload_n C dX4_freeWorth_17 rfl 18 rfl ?_
    obtain ⟨v1, hv1, hR⟩ := opt_b hR
    refine g_callV C (rn_V C (k_X4_findThought l g b S N_ v1 hv1) (cwV 0 C.1.2.2.2.2 (gdV wl_467 wl_464 wl_465 wl_466 wl_5) rfl rfl rfl hd_X4_findThought ⟨Nat.le_of_ble_eq_true rfl, Nat.le_of_ble_eq_true rfl⟩) 0 rfl rfl _ rg_C rg_n rfl rfl (Nat.le_of_ble_eq_true rfl) ⟨Nat.zero_le _, Nat.zero_le _⟩ dX4_freeWorth_18) (wM g b v1) (rg_put (wM_len.trans wM_len.symm)) (rg_len (wM_len.trans wM_len.symm)) 21 rfl ?_
    refine g_aload_n C dX4_freeWorth_21 rfl 22 rfl ?_
    refine g_aload_n C dX4_freeWorth_22 rfl 23 rfl ?_
    refine g_iload_n C dX4_freeWorth_23 rfl 24 rfl ?_
    obtain ⟨v2, hv2, hR⟩ := opt_b hR
    refine g_callI C (rn_V C (k_X4_bestFree l g b v1 p0 N_ v2 hv2) (cwV 1 C.1.2.2.2.2 (gdV wl_680 wl_677 wl_678 wl_679 wl_5) rfl rfl rfl hd_X4_bestFree ⟨Nat.le_of_ble_eq_true rfl, Nat.le_of_ble_eq_true rfl⟩) 0 rfl rfl _ rg_C rg_n rfl rfl (Nat.le_of_ble_eq_true rfl) ⟨Nat.zero_le _, Nat.zero_le _⟩ dX4_freeWorth_24) (wM g b v2.2) (rg_put (wM_len.trans wM_len.symm)) (rg_len (wM_len.trans wM_len.symm)) 27 rfl ?_
    refine g_iload_n C dX4_freeWorth_27 rfl 28 rfl ?_
    obtain ⟨v3, hv3, hR⟩ := opt_b hR
    refine g_callL C (rn_V C (k_X4_freeParts l g b v2.2 v2.1 p0 N_ v3 hv3) (cwV 2 C.1.2.2.2.2 (gdV wl_684 wl_681 wl_682 wl_683 wl_5) rfl rfl rfl hd_X4_freeParts ⟨Nat.le_of_ble_eq_true rfl, Nat.le_of_ble_eq_true rfl⟩) 0 rfl rfl _ rg_C rg_n rfl rfl (Nat.le_of_ble_eq_true rfl) ⟨Nat.zero_le _, Nat.zero_le _⟩ dX4_freeWorth_28) (wM g b v3.2) (rg_put (wM_len.trans wM_len.symm)) (rg_len (wM_len.trans wM_len.symm)) 31 rfl ?_
    refine g_ldc2 C dX4_freeWorth_31 (C.1.2.2.2.2 _ (List.mem_cons_of_mem _ wl_646)) 34 rfl ?_
    refine g_aload_n C dX4_freeWorth_34 rfl 35 rfl ?_
    obtain ⟨v4, hv4, hR⟩ := opt_b hR
    refine g_callLR C (rn_V C (k_X4_allThought l g b v3.2 N_ v4 hv4) (cwV 0 C.1.2.2.2.2 (gdV wl_492 wl_489 wl_490 wl_491 wl_5) rfl rfl rfl hd_X4_allThought ⟨Nat.le_of_ble_eq_true rfl, Nat.le_of_ble_eq_true rfl⟩) 0 rfl rfl _ rg_C rg_n rfl rfl (Nat.le_of_ble_eq_true rfl) ⟨Nat.zero_le _, Nat.zero_le _⟩ dX4_freeWorth_35) 38 rfl ?_
    refine g_lmul C dX4_freeWorth_38 39 rfl ?_
    refine g_iload_n C dX4_freeWorth_39 rfl 40 rfl ?_
    obtain ⟨v5, hv5, hR⟩ := opt_b hR
    refine g_callLR C (rn_S C (k_X4_partOf l g v3.1 (100 * v4) p1 N_ v5 hv5) (va_cwS 3 C.1.2.2.2.2 (gdS wl_495 wl_493 wl_494 wl_5) rfl rfl rfl hd_X4_partOf.2 ⟨Nat.le_of_ble_eq_true rfl, Nat.le_of_ble_eq_true rfl⟩) [] rfl rfl rfl rfl (Nat.le_of_ble_eq_true rfl) ⟨Nat.zero_le _, Nat.zero_le _⟩ dX4_freeWorth_40) 43 rfl ?_
    obtain rfl := Option.some.inj hR
    exact g_lret C hr hlocks hA (by first | (dsimp only; done) | rfl) (by first | (dsimp only; done) | rfl) dX4_freeWorth_43
  · refine g_aload_n C dX4_freeWorth_11 rfl 12 rfl ?_
    refine g_iload_n C dX4_freeWorth_12 rfl 13 rfl ?_
    obtain ⟨v6, hv6, hR⟩ := opt_b hR
    refine g_callL C (rn_V C (k_X4_lowest l g b S (f_X4_notPart S p0 p1) N_ v6 hv6) (cwV 1 C.1.2.2.2.2 (gdV wl_462 wl_459 wl_460 wl_461 wl_5) rfl rfl rfl hd_X4_lowest ⟨Nat.le_of_ble_eq_true rfl, Nat.le_of_ble_eq_true rfl⟩) 0 rfl rfl _ rg_C rg_n rfl rfl (Nat.le_of_ble_eq_true rfl) ⟨Nat.zero_le _, Nat.zero_le _⟩ dX4_freeWorth_13) (wM g b v6.2) (rg_put (wM_len.trans wM_len.symm)) (rg_len (wM_len.trans wM_len.symm)) 16 rfl ?_
    obtain rfl := Option.some.inj hR
    exact g_lret C hr hlocks hA (by first | (dsimp only; done) | rfl) (by first | (dsimp only; done) | rfl) dX4_freeWorth_16
theorem hd_X4_useless : yX4_useless.cls = RX4 ∧ yX4_useless.cls ≠ "java/lang/invoke/MethodHandle" ∧ yX4_useless.cls ≠ "java/lang/invoke/VarHandle" ∧ (parseMethodDescriptor yX4_useless.desc).map (fun d => d.parameters.length) = some 1 := by decide +kernel
def f_X4_useless_L48 (x1 : Int32) (x3 : Int32) (x5 : Int32) (N_ : Nat) : Nat → Int32 → Int32 → ((Nat → Nat → Int32) × (Nat → Nat → Int64)) → Option (Int32 × Int32 × ((Nat → Nat → Int32) × (Nat → Nat → Int64)))
  | 0, _, _, _ => none
  | n_ + 1, x6, x7, S =>
    if 2 ≤ x7 then
      some (x6, x7, S)
    else
      (f_X4_laysParts S x5 x7 N_).bind fun v9 =>
      (f_X4_allParts v9 N_).bind fun v10 =>
      if (lg_cmp v10 0) = 0 then
        f_X4_useless_L48 x1 x3 x5 N_ n_ (x6 &&& 1) (x7 + 1) v9
      else
        (f_X4_bestUse_1 v9 x1 N_).bind fun v11 =>
        if v11 = x3 then
          f_X4_useless_L48 x1 x3 x5 N_ n_ (x6 &&& 1) (x7 + 1) v9
        else
          f_X4_useless_L48 x1 x3 x5 N_ n_ (x6 &&& 0) (x7 + 1) v9
set_option maxRecDepth 100000 in
set_option maxHeartbeats 4000000 in
theorem k_X4_useless_L48 (l : Launch) (g : gE) {p : Program} {e : Env} {s : State} {m : MethodId} {args : Array Value} {below : List Frame} {meth : Method} {c : Code} {Q : State → Prop} {A : Nat → Prop} {b : Nat → Nat}  (C : Cx p s m args c g A cX4_useless 8 wA_X4_useless RX4) (N_ : Nat) (x1 : Int32) (x2 : Int32) (x3 : Int32) (x4 : Int32) (x5 : Int32) : ∀ (n_ : Nat) (x6 : Int32) (x7 : Int32) (S : (Nat → Nat → Int32) × (Nat → Nat → Int64)) (rv_ : Int32 × Int32 × ((Nat → Nat → Int32) × (Nat → Nat → Int64))), f_X4_useless_L48 x1 x3 x5 N_ n_ x6 x7 S = some rv_ → (Gm p l e (headSpec wA_X4_useless ({ frames := 4, cells := 0, slots := 0, locals := 95 } : Room)).room s m args below meth c Q g A 8 0 0 (wM g b rv_.2.2) [some (.ref (b 0)), some (.int x1), some (.int x2), some (.int x3), some (.int x4), some (.int x5), some (.int rv_.1), some (.int rv_.2.1)] [] 100) → Gm p l e (headSpec wA_X4_useless ({ frames := 4, cells := 0, slots := 0, locals := 95 } : Room)).room s m args below meth c Q g A 8 0 0 (wM g b S) [some (.ref (b 0)), some (.int x1), some (.int x2), some (.int x3), some (.int x4), some (.int x5), some (.int x6), some (.int x7)] [] 48 := by
  intro n_
  induction n_ with
  | zero =>
    intro x6 x7 S rv_ hR
    simp [f_X4_useless_L48] at hR
  | succ n_ ih =>
    intro x6 x7 S rv_ hR hk
    rw [f_X4_useless_L48] at hR
    refine g_iload C dX4_useless_48 rfl 50 rfl ?_
    refine g_iconst C dX4_useless_50 2 ic_2 51 rfl ?_
    refine g_icmp_ge C dX4_useless_51 hR 100 54 (by decide) rfl (fun c_51 hR => ?_) (fun c_51 hR => ?_)
    · obtain rfl := Option.some.inj hR
      refine g_lv [some (.ref (b 0)), some (.int x1), some (.int x2), some (.int x3), some (.int x4), some (.int x5), some (.int x6), some (.int x7)] (lvLe.sm (lvLe.sm (lvLe.sm (lvLe.sm (lvLe.sm (lvLe.sm (lvLe.sm (lvLe.sm lvLe.nil)))))))) ?_
      exact hk
    · refine g_aload_n C dX4_useless_54 rfl 55 rfl ?_
      refine g_iload C dX4_useless_55 rfl 57 rfl ?_
      refine g_iload C dX4_useless_57 rfl 59 rfl ?_
      obtain ⟨v9, hv9, hR⟩ := opt_b hR
      refine g_callV C (rn_V C (k_X4_laysParts l g b S x5 x7 N_ v9 hv9) (cwV 2 C.1.2.2.2.2 (gdV wl_650 wl_647 wl_648 wl_649 wl_5) rfl rfl rfl hd_X4_laysParts ⟨Nat.le_of_ble_eq_true rfl, Nat.le_of_ble_eq_true rfl⟩) 0 rfl rfl _ rg_C rg_n rfl rfl (Nat.le_of_ble_eq_true rfl) ⟨Nat.zero_le _, Nat.zero_le _⟩ dX4_useless_59) (wM g b v9) (rg_put (wM_len.trans wM_len.symm)) (rg_len (wM_len.trans wM_len.symm)) 62 rfl ?_
      refine g_iload C dX4_useless_62 rfl 64 rfl ?_
      refine g_aload_n C dX4_useless_64 rfl 65 rfl ?_
      obtain ⟨v10, hv10, hR⟩ := opt_b hR
      refine g_callLR C (rn_V C (k_X4_allParts l g b v9 N_ v10 hv10) (cwV 0 C.1.2.2.2.2 (gdV wl_688 wl_685 wl_686 wl_687 wl_5) rfl rfl rfl hd_X4_allParts ⟨Nat.le_of_ble_eq_true rfl, Nat.le_of_ble_eq_true rfl⟩) 0 rfl rfl _ rg_C rg_n rfl rfl (Nat.le_of_ble_eq_true rfl) ⟨Nat.zero_le _, Nat.zero_le _⟩ dX4_useless_65) 68 rfl ?_
      refine g_lconst C dX4_useless_68 0 (by decide) 69 rfl ?_
      refine g_lcmp C dX4_useless_69 70 rfl ?_
      refine g_if_eq C dX4_useless_70 hR 86 73 (by decide) rfl (fun c_70 hR => ?_) (fun c_70 hR => ?_)
      · refine g_iconst C dX4_useless_86 1 ic_1 87 rfl ?_
        refine g_goto C dX4_useless_87 91 (by decide) ?_
        refine g_iand C dX4_useless_91 92 rfl ?_
        refine g_istore C dX4_useless_92 [_, _, _, _, _, _, _, _] (Nat.le_of_ble_eq_true rfl) rfl rfl 94 rfl ?_
        refine g_iinc C dX4_useless_94 rfl 1 ic_1 [_, _, _, _, _, _, _, _] (Nat.le_of_ble_eq_true rfl) rfl rfl 97 rfl ?_
        refine g_goto C dX4_useless_97 48 (by decide) ?_
        refine g_lv [some (.ref (b 0)), some (.int x1), some (.int x2), some (.int x3), some (.int x4), some (.int x5), some (.int (x6 &&& 1)), some (.int (x7 + 1))] (lvLe.sm (lvLe.sm (lvLe.sm (lvLe.sm (lvLe.sm (lvLe.sm (lvLe.sm (lvLe.sm lvLe.nil)))))))) ?_
        exact ih _ _ _ rv_ hR hk
      · refine g_aload_n C dX4_useless_73 rfl 74 rfl ?_
        refine g_aload_n C dX4_useless_74 rfl 75 rfl ?_
        refine g_get (v := .ref (b 18)) C (hiC hiA_4) 0 rfl rfl 26 (by decide) (List.mem_cons_of_mem _ wl_81) rfl rfl dX4_useless_75 78 rfl ?_
        refine g_iload_n C dX4_useless_78 rfl 79 rfl ?_
        obtain ⟨v11, hv11, hR⟩ := opt_b hR
        refine g_callIR C (rn_V C (k_X4_bestUse_1 l g b v9 x1 N_ v11 hv11) (cwV 2 C.1.2.2.2.2 (gdV wl_562 wl_559 wl_560 wl_561 wl_5) rfl rfl rfl hd_X4_bestUse ⟨Nat.le_of_ble_eq_true rfl, Nat.le_of_ble_eq_true rfl⟩) 0 rfl rfl _ rg_C rg_n rfl rfl (Nat.le_of_ble_eq_true rfl) ⟨Nat.zero_le _, Nat.zero_le _⟩ dX4_useless_79) 82 rfl ?_
        refine g_iload_n C dX4_useless_82 rfl 83 rfl ?_
        refine g_icmp_ne C dX4_useless_83 hR 90 86 (by decide) rfl (fun c_83 hR => ?_) (fun c_83 hR => ?_)
        · refine g_iconst C dX4_useless_90 0 ic_0 91 rfl ?_
          refine g_iand C dX4_useless_91 92 rfl ?_
          refine g_istore C dX4_useless_92 [_, _, _, _, _, _, _, _] (Nat.le_of_ble_eq_true rfl) rfl rfl 94 rfl ?_
          refine g_iinc C dX4_useless_94 rfl 1 ic_1 [_, _, _, _, _, _, _, _] (Nat.le_of_ble_eq_true rfl) rfl rfl 97 rfl ?_
          refine g_goto C dX4_useless_97 48 (by decide) ?_
          refine g_lv [some (.ref (b 0)), some (.int x1), some (.int x2), some (.int x3), some (.int x4), some (.int x5), some (.int (x6 &&& 0)), some (.int (x7 + 1))] (lvLe.sm (lvLe.sm (lvLe.sm (lvLe.sm (lvLe.sm (lvLe.sm (lvLe.sm (lvLe.sm lvLe.nil)))))))) ?_
          exact ih _ _ _ rv_ hR hk
        · refine g_iconst C dX4_useless_86 1 ic_1 87 rfl ?_
          refine g_goto C dX4_useless_87 91 (by decide) ?_
          refine g_iand C dX4_useless_91 92 rfl ?_
          refine g_istore C dX4_useless_92 [_, _, _, _, _, _, _, _] (Nat.le_of_ble_eq_true rfl) rfl rfl 94 rfl ?_
          refine g_iinc C dX4_useless_94 rfl 1 ic_1 [_, _, _, _, _, _, _, _] (Nat.le_of_ble_eq_true rfl) rfl rfl 97 rfl ?_
          refine g_goto C dX4_useless_97 48 (by decide) ?_
          refine g_lv [some (.ref (b 0)), some (.int x1), some (.int x2), some (.int x3), some (.int x4), some (.int x5), some (.int (x6 &&& 1)), some (.int (x7 + 1))] (lvLe.sm (lvLe.sm (lvLe.sm (lvLe.sm (lvLe.sm (lvLe.sm (lvLe.sm (lvLe.sm lvLe.nil)))))))) ?_
          exact ih _ _ _ rv_ hR hk
def f_X4_useless_L36 (x1 : Int32) (x3 : Int32) (N_ : Nat) : Nat → Int32 → Int32 → ((Nat → Nat → Int32) × (Nat → Nat → Int64)) → Option (Int32 × Int32 × ((Nat → Nat → Int32) × (Nat → Nat → Int64)))
  | 0, _, _, _ => none
  | n_ + 1, x4, x5, S =>
    if 4 ≤ x5 then
      some (x4, x5, S)
    else
      (f_X4_useless_L48 x1 x3 x5 N_ N_ 1 0 S).bind fun v14 =>
      if v14.1 = 0 then
        f_X4_useless_L36 x1 x3 N_ n_ (x4 ||| 0) (x5 + 1) v14.2.2
      else
        f_X4_useless_L36 x1 x3 N_ n_ (x4 ||| ((1 : Int32) <<< (x5 &&& 31))) (x5 + 1) v14.2.2
set_option maxRecDepth 100000 in
set_option maxHeartbeats 4000000 in
theorem k_X4_useless_L36 (l : Launch) (g : gE) {p : Program} {e : Env} {s : State} {m : MethodId} {args : Array Value} {below : List Frame} {meth : Method} {c : Code} {Q : State → Prop} {A : Nat → Prop} {b : Nat → Nat}  (C : Cx p s m args c g A cX4_useless 8 wA_X4_useless RX4) (N_ : Nat) (x1 : Int32) (x2 : Int32) (x3 : Int32) : ∀ (n_ : Nat) (x4 : Int32) (x5 : Int32) (S : (Nat → Nat → Int32) × (Nat → Nat → Int64)) (rv_ : Int32 × Int32 × ((Nat → Nat → Int32) × (Nat → Nat → Int64))), f_X4_useless_L36 x1 x3 N_ n_ x4 x5 S = some rv_ → (Gm p l e (headSpec wA_X4_useless ({ frames := 4, cells := 0, slots := 0, locals := 95 } : Room)).room s m args below meth c Q g A 8 0 0 (wM g b rv_.2.2) [some (.ref (b 0)), some (.int x1), some (.int x2), some (.int x3), some (.int rv_.1), some (.int rv_.2.1), none, none] [] 124) → Gm p l e (headSpec wA_X4_useless ({ frames := 4, cells := 0, slots := 0, locals := 95 } : Room)).room s m args below meth c Q g A 8 0 0 (wM g b S) [some (.ref (b 0)), some (.int x1), some (.int x2), some (.int x3), some (.int x4), some (.int x5), none, none] [] 36 := by
  intro n_
  induction n_ with
  | zero =>
    intro x4 x5 S rv_ hR
    simp [f_X4_useless_L36] at hR
  | succ n_ ih =>
    intro x4 x5 S rv_ hR hk
    rw [f_X4_useless_L36] at hR
    refine g_iload C dX4_useless_36 rfl 38 rfl ?_
    refine g_iconst C dX4_useless_38 4 ic_4 39 rfl ?_
    refine g_icmp_ge C dX4_useless_39 hR 124 42 (by decide) rfl (fun c_39 hR => ?_) (fun c_39 hR => ?_)
    · obtain rfl := Option.some.inj hR
      refine g_lv [some (.ref (b 0)), some (.int x1), some (.int x2), some (.int x3), some (.int x4), some (.int x5), none, none] (lvLe.sm (lvLe.sm (lvLe.sm (lvLe.sm (lvLe.sm (lvLe.sm (lvLe.nn (lvLe.nn lvLe.nil)))))))) ?_
      exact hk
    · refine g_iconst C dX4_useless_42 1 ic_1 43 rfl ?_
      refine g_istore C dX4_useless_43 [_, _, _, _, _, _, _, _] (Nat.le_of_ble_eq_true rfl) rfl rfl 45 rfl ?_
      refine g_iconst C dX4_useless_45 0 ic_0 46 rfl ?_
      refine g_istore C dX4_useless_46 [_, _, _, _, _, _, _, _] (Nat.le_of_ble_eq_true rfl) rfl rfl 48 rfl ?_
      refine g_lv [some (.ref (b 0)), some (.int x1), some (.int x2), some (.int x3), some (.int x4), some (.int x5), some (.int 1), some (.int 0)] (lvLe.sm (lvLe.sm (lvLe.sm (lvLe.sm (lvLe.sm (lvLe.sm (lvLe.sm (lvLe.sm lvLe.nil)))))))) ?_
      obtain ⟨v14, hv14, hR⟩ := opt_b hR
      refine k_X4_useless_L48 l g C N_ x1 x2 x3 x4 x5 N_ 1 0 S _ hv14 ?_
      refine g_iload C dX4_useless_100 rfl 102 rfl ?_
      refine g_iload C dX4_useless_102 rfl 104 rfl ?_
      refine g_if_eq C dX4_useless_104 hR 114 107 (by decide) rfl (fun c_104 hR => ?_) (fun c_104 hR => ?_)
      · refine g_iconst C dX4_useless_114 0 ic_0 115 rfl ?_
        refine g_ior C dX4_useless_115 116 rfl ?_
        refine g_istore C dX4_useless_116 [_, _, _, _, _, _, _, _] (Nat.le_of_ble_eq_true rfl) rfl rfl 118 rfl ?_
        refine g_iinc C dX4_useless_118 rfl 1 ic_1 [_, _, _, _, _, _, _, _] (Nat.le_of_ble_eq_true rfl) rfl rfl 121 rfl ?_
        refine g_goto C dX4_useless_121 36 (by decide) ?_
        refine g_lv [some (.ref (b 0)), some (.int x1), some (.int x2), some (.int x3), some (.int (x4 ||| 0)), some (.int (x5 + 1)), none, none] (lvLe.sm (lvLe.sm (lvLe.sm (lvLe.sm (lvLe.sm (lvLe.sm (lvLe.nn (lvLe.nn lvLe.nil)))))))) ?_
        exact ih _ _ _ rv_ hR hk
      · refine g_iconst C dX4_useless_107 1 ic_1 108 rfl ?_
        refine g_iload C dX4_useless_108 rfl 110 rfl ?_
        refine g_ishl C dX4_useless_110 111 rfl ?_
        refine g_goto C dX4_useless_111 115 (by decide) ?_
        refine g_ior C dX4_useless_115 116 rfl ?_
        refine g_istore C dX4_useless_116 [_, _, _, _, _, _, _, _] (Nat.le_of_ble_eq_true rfl) rfl rfl 118 rfl ?_
        refine g_iinc C dX4_useless_118 rfl 1 ic_1 [_, _, _, _, _, _, _, _] (Nat.le_of_ble_eq_true rfl) rfl rfl 121 rfl ?_
        refine g_goto C dX4_useless_121 36 (by decide) ?_
        refine g_lv [some (.ref (b 0)), some (.int x1), some (.int x2), some (.int x3), some (.int (x4 ||| ((1 : Int32) <<< (x5 &&& 31)))), some (.int (x5 + 1)), none, none] (lvLe.sm (lvLe.sm (lvLe.sm (lvLe.sm (lvLe.sm (lvLe.sm (lvLe.nn (lvLe.nn lvLe.nil)))))))) ?_
        exact ih _ _ _ rv_ hR hk
def f_X4_useless (S : (Nat → Nat → Int32) × (Nat → Nat → Int64)) (p0 : Int32) (N_ : Nat) : Option (Int32 × ((Nat → Nat → Int32) × (Nat → Nat → Int64))) :=
  if (f_X4_notBest S p0) = 0 then
    (f_X4_findThought S N_).bind fun v1 =>
    (f_X4_bestUse_0 v1 p0 N_).bind fun v2 =>
    (f_X4_useless_L36 p0 v2 N_ N_ 0 0 v1).bind fun v15 =>
    some (v15.1, v15.2.2)
  else
    (f_X4_no S (f_X4_notBest S p0) N_).bind fun v16 =>
    some (v16.1, v16.2)
set_option maxRecDepth 100000 in
set_option maxHeartbeats 4000000 in
theorem k_X4_useless (l : Launch) (g : gE) (b : Nat → Nat) (S : (Nat → Nat → Int32) × (Nat → Nat → Int64)) (p0 : Int32) (N_ : Nat) (R_ : Int32 × ((Nat → Nat → Int32) × (Nat → Nat → Int64))) (hR : f_X4_useless S p0 N_ = some R_) : FnI l g yX4_useless wA_X4_useless { frames := 4, cells := 0, slots := 0, locals := 95 } [.ref (b 0), .int p0] (wM g b S) R_.1 (wM g b R_.2) := by
  refine fEntry (As := [.ref (b 0), .int p0]) (maxL := 8) (ret := (some .int)) (by decide) rfl [some (.ref (b 0)), some (.int p0), none, none, none, none, none, none] (Nat.le_of_ble_eq_true rfl) (lvInB.to (lvInB.sm (lvInB.sm (lvInB.nn (lvInB.nn (lvInB.nn (lvInB.nn (lvInB.nn (lvInB.nn lvInB.nil))))))))) ?_
  intro p e s m below meth c A C hr hlocks hname hA
  have C : Cx p s m _ c g A cX4_useless 8 wA_X4_useless RX4 := C
  rw [f_X4_useless] at hR
  refine g_aload_n C dX4_useless_0 rfl 1 rfl ?_
  refine g_iload_n C dX4_useless_1 rfl 2 rfl ?_
  refine g_callIR C (rn_V C (k_X4_notBest l g b S p0) (cwV 1 C.1.2.2.2.2 (gdV wl_558 wl_555 wl_556 wl_557 wl_5) rfl rfl rfl hd_X4_notBest ⟨Nat.le_of_ble_eq_true rfl, Nat.le_of_ble_eq_true rfl⟩) 0 rfl rfl _ rg_C rg_n rfl rfl (Nat.le_of_ble_eq_true rfl) ⟨Nat.zero_le _, Nat.zero_le _⟩ dX4_useless_2) 5 rfl ?_
  refine g_istore_n C dX4_useless_5 [_, _, _, _, _, _, _, _] (Nat.le_of_ble_eq_true rfl) rfl rfl 6 rfl ?_
  refine g_iload_n C dX4_useless_6 rfl 7 rfl ?_
  refine g_if_eq C dX4_useless_7 hR 16 10 (by decide) rfl (fun c_7 hR => ?_) (fun c_7 hR => ?_)
  · refine g_aload_n C dX4_useless_16 rfl 17 rfl ?_
    obtain ⟨v1, hv1, hR⟩ := opt_b hR
    refine g_callV C (rn_V C (k_X4_findThought l g b S N_ v1 hv1) (cwV 0 C.1.2.2.2.2 (gdV wl_467 wl_464 wl_465 wl_466 wl_5) rfl rfl rfl hd_X4_findThought ⟨Nat.le_of_ble_eq_true rfl, Nat.le_of_ble_eq_true rfl⟩) 0 rfl rfl _ rg_C rg_n rfl rfl (Nat.le_of_ble_eq_true rfl) ⟨Nat.zero_le _, Nat.zero_le _⟩ dX4_useless_17) (wM g b v1) (rg_put (wM_len.trans wM_len.symm)) (rg_len (wM_len.trans wM_len.symm)) 20 rfl ?_
    refine g_aload_n C dX4_useless_20 rfl 21 rfl ?_
    refine g_aload_n C dX4_useless_21 rfl 22 rfl ?_
    refine g_get (v := .ref (b 17)) C (hiC hiA_4) 0 rfl rfl 25 (by decide) (List.mem_cons_of_mem _ wl_80) rfl rfl dX4_useless_22 25 rfl ?_
    refine g_iload_n C dX4_useless_25 rfl 26 rfl ?_
    obtain ⟨v2, hv2, hR⟩ := opt_b hR
    refine g_callIR C (rn_V C (k_X4_bestUse_0 l g b v1 p0 N_ v2 hv2) (cwV 2 C.1.2.2.2.2 (gdV wl_562 wl_559 wl_560 wl_561 wl_5) rfl rfl rfl hd_X4_bestUse ⟨Nat.le_of_ble_eq_true rfl, Nat.le_of_ble_eq_true rfl⟩) 0 rfl rfl _ rg_C rg_n rfl rfl (Nat.le_of_ble_eq_true rfl) ⟨Nat.zero_le _, Nat.zero_le _⟩ dX4_useless_26) 29 rfl ?_
    refine g_istore_n C dX4_useless_29 [_, _, _, _, _, _, _, _] (Nat.le_of_ble_eq_true rfl) rfl rfl 30 rfl ?_
    refine g_iconst C dX4_useless_30 0 ic_0 31 rfl ?_
    refine g_istore C dX4_useless_31 [_, _, _, _, _, _, _, _] (Nat.le_of_ble_eq_true rfl) rfl rfl 33 rfl ?_
    refine g_iconst C dX4_useless_33 0 ic_0 34 rfl ?_
    refine g_istore C dX4_useless_34 [_, _, _, _, _, _, _, _] (Nat.le_of_ble_eq_true rfl) rfl rfl 36 rfl ?_
    refine g_lv [some (.ref (b 0)), some (.int p0), some (.int (f_X4_notBest S p0)), some (.int v2), some (.int 0), some (.int 0), none, none] (lvLe.sm (lvLe.sm (lvLe.sm (lvLe.sm (lvLe.sm (lvLe.sm (lvLe.nn (lvLe.nn lvLe.nil)))))))) ?_
    obtain ⟨v15, hv15, hR⟩ := opt_b hR
    refine k_X4_useless_L36 l g C N_ p0 (f_X4_notBest S p0) v2 N_ 0 0 v1 _ hv15 ?_
    refine g_iload C dX4_useless_124 rfl 126 rfl ?_
    obtain rfl := Option.some.inj hR
    exact g_iret C hr hlocks hA (by first | (dsimp only; done) | rfl) (by first | (dsimp only; done) | rfl) dX4_useless_126
  · refine g_aload_n C dX4_useless_10 rfl 11 rfl ?_
    refine g_iload_n C dX4_useless_11 rfl 12 rfl ?_
    obtain ⟨v16, hv16, hR⟩ := opt_b hR
    refine g_callI C (rn_V C (k_X4_no l g b S (f_X4_notBest S p0) N_ v16 hv16) (cwV 1 C.1.2.2.2.2 (gdV wl_111 wl_108 wl_109 wl_110 wl_5) rfl rfl rfl hd_X4_no ⟨Nat.le_of_ble_eq_true rfl, Nat.le_of_ble_eq_true rfl⟩) 0 rfl rfl _ rg_C rg_n rfl rfl (Nat.le_of_ble_eq_true rfl) ⟨Nat.zero_le _, Nat.zero_le _⟩ dX4_useless_12) (wM g b v16.2) (rg_put (wM_len.trans wM_len.symm)) (rg_len (wM_len.trans wM_len.symm)) 15 rfl ?_
    obtain rfl := Option.some.inj hR
    exact g_iret C hr hlocks hA (by first | (dsimp only; done) | rfl) (by first | (dsimp only; done) | rfl) dX4_useless_15
