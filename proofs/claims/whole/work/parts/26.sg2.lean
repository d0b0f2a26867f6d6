theorem hd_X3_feed : yX3_feed.cls = RX3 ∧ yX3_feed.cls ≠ "java/lang/invoke/MethodHandle" ∧ yX3_feed.cls ≠ "java/lang/invoke/VarHandle" ∧ (parseMethodDescriptor yX3_feed.desc).map (fun d => d.parameters.length) = some 1 := by decide +kernel
def f_X3_feed (S : (Nat → Nat → Int32) × (Nat → Nat → Int64)) (p0 : Int32) : Int32 × ((Nat → Nat → Int32) × (Nat → Nat → Int64)) :=
  if (f_X3_refusalOutside p0 0 255) = 0 then
    if (b2i (f_X3_isOneOf (S.1 30 1) 96)) = 0 then
      ((f_X3_refuse S (-6)).1, (f_X3_refuse S (-6)).2)
    else
      (((S.1 30 1) + 1), ((kS (kS S.1 30 (upd (S.1 30) 1 ((S.1 30 1) + 1))) 31 (upd (S.1 31) (Int32.toNatClampNeg (S.1 30 1)) p0)), S.2))
  else
    ((f_X3_refuse S (f_X3_refusalOutside p0 0 255)).1, (f_X3_refuse S (f_X3_refusalOutside p0 0 255)).2)
set_option maxRecDepth 100000 in
set_option maxHeartbeats 4000000 in
theorem k_X3_feed (l : Launch) (g : gE) (b : Nat → Nat) (y : Nat → Nat → Nat) (S : (Nat → Nat → Int32) × (Nat → Nat → Int64)) (p0 : Int32) : FnI l g yX3_feed wA_X3_feed { frames := 1, cells := 0, slots := 0, locals := 22 } [.ref (b 0), .int p0] (wC g b y S) ((f_X3_feed S p0).1) (wC g b y ((f_X3_feed S p0).2)) := by
  generalize hR : f_X3_feed S p0 = R_
  refine fEntry (As := [.ref (b 0), .int p0]) (maxL := 3) (ret := (some .int)) (by decide) rfl [some (.ref (b 0)), some (.int p0), none] (Nat.le_of_ble_eq_true rfl) (lvInB.to (lvInB.sm (lvInB.sm (lvInB.nn lvInB.nil)))) ?_
  intro p e s m below meth c A C hr hlocks hname hA
  have C : Cx p s m _ c g A cX3_feed 3 wA_X3_feed RX3 := C
  rw [f_X3_feed] at hR
  refine g_iload_n C dX3_feed_0 rfl 1 rfl ?_
  refine g_iconst C dX3_feed_1 0 ic_0 2 rfl ?_
  refine g_sipush C dX3_feed_2 255 sp_255 5 rfl ?_
  refine g_callIR C (rn_S C (k_X3_refusalOutside l g p0 0 255) (va_cwS 3 C.1.2.2.2.2 (gdS wl_92 wl_90 wl_91 wl_2) rfl rfl rfl hd_X3_refusalOutside.2 ⟨Nat.le_of_ble_eq_true rfl, Nat.le_of_ble_eq_true rfl⟩) [] rfl rfl rfl rfl (Nat.le_of_ble_eq_true rfl) ⟨Nat.zero_le _, Nat.zero_le _⟩ dX3_feed_5) 8 rfl ?_
  refine g_istore_n C dX3_feed_8 [_, _, _] (Nat.le_of_ble_eq_true rfl) rfl rfl 9 rfl ?_
  refine g_iload_n C dX3_feed_9 rfl 10 rfl ?_
  refine g_if_ne C dX3_feed_10 hR 31 13 (by decide) rfl (fun c_10 hR => ?_) (fun c_10 hR => ?_)
  · refine g_iload_n C dX3_feed_31 rfl 32 rfl ?_
    refine g_if_eqF C dX3_feed_32 c_10 41 35 (by decide) rfl ?_
    refine g_aload_n C dX3_feed_35 rfl 36 rfl ?_
    refine g_iload_n C dX3_feed_36 rfl 37 rfl ?_
    refine g_callI C (rn_V C (k_X3_refuse l g b y S (f_X3_refusalOutside p0 0 255)) (cwV 1 C.1.2.2.2.2 (gdV wl_99 wl_96 wl_97 wl_98 wl_2) rfl rfl rfl hd_X3_refuse ⟨Nat.le_of_ble_eq_true rfl, Nat.le_of_ble_eq_true rfl⟩) 0 rfl rfl _ rg_C rg_n rfl rfl (Nat.le_of_ble_eq_true rfl) ⟨Nat.zero_le _, Nat.zero_le _⟩ dX3_feed_37) (wC g b y ((f_X3_refuse S (f_X3_refusalOutside p0 0 255)).2)) (rg_put (wC_len.trans wC_len.symm)) (rg_len (wC_len.trans wC_len.symm)) 40 rfl ?_
    subst hR
    exact g_iret C hr hlocks hA (by first | (dsimp only; done) | rfl) (by first | (dsimp only; done) | rfl) dX3_feed_40
  · refine g_aload_n C dX3_feed_13 rfl 14 rfl ?_
    refine g_get (v := .int (S.1 30 1)) C (hiC hiA_3) 0 rfl rfl 5 (by decide) (List.mem_cons_of_mem _ wl_21) rfl rfl dX3_feed_14 17 rfl ?_
    refine g_aload_n C dX3_feed_17 rfl 18 rfl ?_
    refine g_get (v := .ref (b 19)) C (hiC hiA_3) 0 rfl rfl 4 (by decide) (List.mem_cons_of_mem _ wl_20) rfl rfl dX3_feed_18 21 rfl ?_
    refine g_alen C 34 0 rfl rfl 96 (show Int32.ofNat 96 = 96 by decide) dX3_feed_21 22 rfl ?_
    refine g_callIR C (rn_S C (k_X3_isOneOf l g (S.1 30 1) 96) (va_cwS 2 C.1.2.2.2.2 (gdS wl_95 wl_93 wl_94 wl_2) rfl rfl rfl hd_X3_isOneOf.2 ⟨Nat.le_of_ble_eq_true rfl, Nat.le_of_ble_eq_true rfl⟩) [] rfl rfl rfl rfl (Nat.le_of_ble_eq_true rfl) ⟨Nat.zero_le _, Nat.zero_le _⟩ dX3_feed_22) 25 rfl ?_
    refine g_if_ne C dX3_feed_25 hR 31 28 (by decide) rfl (fun c_25 hR => ?_) (fun c_25 hR => ?_)
    · refine g_iload_n C dX3_feed_31 rfl 32 rfl ?_
      refine g_if_eqT C dX3_feed_32 c_10 41 (by decide) ?_
      refine g_aload_n C dX3_feed_41 rfl 42 rfl ?_
      refine g_get (v := .ref (b 19)) C (hiC hiA_3) 0 rfl rfl 4 (by decide) (List.mem_cons_of_mem _ wl_20) rfl rfl dX3_feed_42 45 rfl ?_
      refine g_aload_n C dX3_feed_45 rfl 46 rfl ?_
      refine g_get (v := .int (S.1 30 1)) C (hiC hiA_3) 0 rfl rfl 5 (by decide) (List.mem_cons_of_mem _ wl_21) rfl rfl dX3_feed_46 49 rfl ?_
      refine g_iload_n C dX3_feed_49 rfl 50 rfl ?_
      refine g_iast (f := (S.1 31)) C 34 rfl (one_in c_25 (by decide)) dX3_feed_50 (wC g b y ((kS S.1 31 (upd (S.1 31) (Int32.toNatClampNeg (S.1 30 1)) p0)), S.2)) rfl 51 rfl ?_
      refine g_aload_n C dX3_feed_51 rfl 52 rfl ?_
      refine g_dup C dX3_feed_52 rfl 53 rfl ?_
      refine g_get (v := .int (S.1 30 1)) C (hiC hiA_3) 0 rfl rfl 5 (by decide) (List.mem_cons_of_mem _ wl_21) rfl rfl dX3_feed_53 56 rfl ?_
      refine g_iconst C dX3_feed_56 1 ic_1 57 rfl ?_
      refine g_iadd C dX3_feed_57 58 rfl ?_
      refine g_put C (hiC hiA_3) tyX3 tyX3_ok nmX3 0 rfl rfl 5 (by decide) (List.mem_cons_of_mem _ wl_21) rfl rfl rfl rfl (Nat.le_of_ble_eq_true rfl) dX3_feed_58 (wC g b y ((kS (kS S.1 30 (upd (S.1 30) 1 ((S.1 30 1) + 1))) 31 (upd (S.1 31) (Int32.toNatClampNeg (S.1 30 1)) p0)), S.2)) rfl 61 rfl ?_
      refine g_aload_n C dX3_feed_61 rfl 62 rfl ?_
      refine g_get (v := .int ((S.1 30 1) + 1)) C (hiC hiA_3) 0 rfl rfl 5 (by decide) (List.mem_cons_of_mem _ wl_21) rfl rfl dX3_feed_62 65 rfl ?_
      subst hR
      exact g_iret C hr hlocks hA (by first | (dsimp only; done) | rfl) (by first | (dsimp only; done) | rfl) dX3_feed_65
    · refine g_bipush C dX3_feed_28 (-6) bp_m6 30 rfl ?_
      refine g_istore_n C dX3_feed_30 [_, _, _] (Nat.le_of_ble_eq_true rfl) rfl rfl 31 rfl ?_
      refine g_iload_n C dX3_feed_31 rfl 32 rfl ?_
      refine g_if_eqF C dX3_feed_32 (by decide) 41 35 (by decide) rfl ?_
      refine g_aload_n C dX3_feed_35 rfl 36 rfl ?_
      refine g_iload_n C dX3_feed_36 rfl 37 rfl ?_
      refine g_callI C (rn_V C (k_X3_refuse l g b y S (-6)) (cwV 1 C.1.2.2.2.2 (gdV wl_99 wl_96 wl_97 wl_98 wl_2) rfl rfl rfl hd_X3_refuse ⟨Nat.le_of_ble_eq_true rfl, Nat.le_of_ble_eq_true rfl⟩) 0 rfl rfl _ rg_C rg_n rfl rfl (Nat.le_of_ble_eq_true rfl) ⟨Nat.zero_le _, Nat.zero_le _⟩ dX3_feed_37) (wC g b y ((f_X3_refuse S (-6)).2)) (rg_put (wC_len.trans wC_len.symm)) (rg_len (wC_len.trans wC_len.symm)) 40 rfl ?_
      subst hR
      exact g_iret C hr hlocks hA (by first | (dsimp only; done) | rfl) (by first | (dsimp only; done) | rfl) dX3_feed_40
theorem hd_X3_jug : yX3_jug.cls = RX3 ∧ yX3_jug.cls ≠ "java/lang/invoke/MethodHandle" ∧ yX3_jug.cls ≠ "java/lang/invoke/VarHandle" ∧ (parseMethodDescriptor yX3_jug.desc).map (fun d => d.parameters.length) = some 2 := by decide +kernel
def f_X3_jug (S : (Nat → Nat → Int32) × (Nat → Nat → Int64)) (p0 : Int32) (p1 : Int32) : Int32 × ((Nat → Nat → Int32) × (Nat → Nat → Int64)) :=
  if jIn (S.1 0 0) p0 then
    if p1 = 0 then
      ((S.1 5 (Int32.toNatClampNeg p0)), S)
    else
      if p1 = 1 then
        ((S.1 6 (Int32.toNatClampNeg p0)), S)
      else
        if p1 = 2 then
          ((S.1 7 (Int32.toNatClampNeg p0)), S)
        else
          if p1 = 3 then
            ((S.1 8 (Int32.toNatClampNeg p0)), S)
          else
            if p1 = 4 then
              ((f_X0_trueStage (S.1 8 (Int32.toNatClampNeg p0))), S)
            else
              if p1 = 5 then
                ((f_X0_coldPoints (S.1 5 (Int32.toNatClampNeg p0))), S)
              else
                if p1 = 6 then
                  ((f_X0_warmPoints (S.1 5 (Int32.toNatClampNeg p0)) (S.1 6 (Int32.toNatClampNeg p0))), S)
                else
                  ((f_X3_refuse S (-2)).1, (f_X3_refuse S (-2)).2)
  else
    ((f_X3_refuse S (-1)).1, (f_X3_refuse S (-1)).2)
set_option maxRecDepth 100000 in
set_option maxHeartbeats 4000000 in
theorem k_X3_jug (l : Launch) (g : gE) (b : Nat → Nat) (y : Nat → Nat → Nat) (S : (Nat → Nat → Int32) × (Nat → Nat → Int64)) (p0 : Int32) (p1 : Int32) : FnI l g yX3_jug wA_X3_jug { frames := 2, cells := 0, slots := 0, locals := 42 } [.ref (b 0), .int p0, .int p1] (wC g b y S) ((f_X3_jug S p0 p1).1) (wC g b y ((f_X3_jug S p0 p1).2)) := by
  generalize hR : f_X3_jug S p0 p1 = R_
  refine fEntry (As := [.ref (b 0), .int p0, .int p1]) (maxL := 4) (ret := (some .int)) (by decide) rfl [some (.ref (b 0)), some (.int p0), some (.int p1), none] (Nat.le_of_ble_eq_true rfl) (lvInB.to (lvInB.sm (lvInB.sm (lvInB.sm (lvInB.nn lvInB.nil))))) ?_
  intro p e s m below meth c A C hr hlocks hname hA
  have C : Cx p s m _ c g A cX3_jug 4 wA_X3_jug RX3 := C
  rw [f_X3_jug] at hR
  refine g_aload_n C dX3_jug_0 rfl 1 rfl ?_
  refine g_get (v := .ref (b 1)) C (hiC hiA_3) 0 rfl rfl 0 (by decide) (List.mem_cons_of_mem _ wl_15) rfl rfl dX3_jug_1 4 rfl ?_
  refine g_iload_n C dX3_jug_4 rfl 5 rfl ?_
  refine g_callQR C (rn_VN C (k_X1_jugAtq l g (b 1) (b 2) (b 3) (b 4) (b 5) (b 6) (S.1 0 0) (S.1 0 1) (S.1 0 2) (S.1 0 3) (S.1 0 4) (y 0) p0) ⟨va_cnB 1 C.1.2.2.2.2 (gdA wl_143) rfl rfl rfl (nst C (List.mem_of_getElem? (i := 8) rfl)) (C.1.2.2.2.2 _ (List.mem_cons_of_mem _ wl_14)) hd_X1_jugAt.2 ⟨Nat.le_of_ble_eq_true rfl, Nat.le_of_ble_eq_true rfl⟩, C.1.2.2.2.2 _ (List.mem_cons_of_mem _ wl_141), C.1.2.2.2.2 _ (List.mem_cons_of_mem _ wl_142)⟩ 1 rfl rfl [1, 2] rfl rfl rfl rfl (Nat.le_of_ble_eq_true rfl) ⟨Nat.zero_le _, Nat.zero_le _⟩ dX3_jug_5) hR 8 rfl (fun c_5 hR => ?_) (fun c_5 hR => ?_)
  · have hj_5 : (Int32.toNatClampNeg p0) < 5 := jIn_lt c_5
    refine g_astore_n C dX3_jug_8 [_, _, _, _] (Nat.le_of_ble_eq_true rfl) rfl rfl 9 rfl ?_
    refine g_aload_n C dX3_jug_9 rfl 10 rfl ?_
    refine g_nonnull C dX3_jug_10 19 (by decide) ?_
    refine g_iload_n C dX3_jug_19 rfl 20 rfl ?_
    rcases Decidable.em (p1 = 0) with c_20_0 | c_20_0
    · have hR := (if_pos c_20_0).symm.trans hR
      refine g_tableIn C dX3_jug_20 0 c_20_0 (44) 64 (by decide) ?_
      refine g_aload_n C dX3_jug_64 rfl 65 rfl ?_
      refine g_getN (v := .int (S.1 5 (Int32.toNatClampNeg p0))) C (hiC hiA_0) (7 + (Int32.toNatClampNeg p0)) (wC_jug hj_5) rfl 0 (by decide) (List.mem_of_getElem? (i := 1) rfl) rfl rfl dX3_jug_65 68 rfl ?_
      subst hR
      exact g_iret C hr hlocks hA (by first | (dsimp only; done) | rfl) (by first | (dsimp only; done) | rfl) dX3_jug_68
    · have hR := (if_neg c_20_0).symm.trans hR
      rcases Decidable.em (p1 = 1) with c_20_1 | c_20_1
      · have hR := (if_pos c_20_1).symm.trans hR
        refine g_tableIn C dX3_jug_20 1 c_20_1 (49) 69 (by decide) ?_
        refine g_aload_n C dX3_jug_69 rfl 70 rfl ?_
        refine g_getN (v := .int (S.1 6 (Int32.toNatClampNeg p0))) C (hiC hiA_0) (7 + (Int32.toNatClampNeg p0)) (wC_jug hj_5) rfl 1 (by decide) (List.mem_of_getElem? (i := 2) rfl) rfl rfl dX3_jug_70 73 rfl ?_
        subst hR
        exact g_iret C hr hlocks hA (by first | (dsimp only; done) | rfl) (by first | (dsimp only; done) | rfl) dX3_jug_73
      · have hR := (if_neg c_20_1).symm.trans hR
        rcases Decidable.em (p1 = 2) with c_20_2 | c_20_2
        · have hR := (if_pos c_20_2).symm.trans hR
          refine g_tableIn C dX3_jug_20 2 c_20_2 (54) 74 (by decide) ?_
          refine g_aload_n C dX3_jug_74 rfl 75 rfl ?_
          refine g_getN (v := .int (S.1 7 (Int32.toNatClampNeg p0))) C (hiC hiA_0) (7 + (Int32.toNatClampNeg p0)) (wC_jug hj_5) rfl 2 (by decide) (List.mem_of_getElem? (i := 3) rfl) rfl rfl dX3_jug_75 78 rfl ?_
          subst hR
          exact g_iret C hr hlocks hA (by first | (dsimp only; done) | rfl) (by first | (dsimp only; done) | rfl) dX3_jug_78
        · have hR := (if_neg c_20_2).symm.trans hR
          rcases Decidable.em (p1 = 3) with c_20_3 | c_20_3
          · have hR := (if_pos c_20_3).symm.trans hR
            refine g_tableIn C dX3_jug_20 3 c_20_3 (59) 79 (by decide) ?_
            refine g_aload_n C dX3_jug_79 rfl 80 rfl ?_
            refine g_getN (v := .int (S.1 8 (Int32.toNatClampNeg p0))) C (hiC hiA_0) (7 + (Int32.toNatClampNeg p0)) (wC_jug hj_5) rfl 3 (by decide) (List.mem_of_getElem? (i := 4) rfl) rfl rfl dX3_jug_80 83 rfl ?_
            subst hR
            exact g_iret C hr hlocks hA (by first | (dsimp only; done) | rfl) (by first | (dsimp only; done) | rfl) dX3_jug_83
          · have hR := (if_neg c_20_3).symm.trans hR
            rcases Decidable.em (p1 = 4) with c_20_4 | c_20_4
            · have hR := (if_pos c_20_4).symm.trans hR
              refine g_tableIn C dX3_jug_20 4 c_20_4 (64) 84 (by decide) ?_
              refine g_aload_n C dX3_jug_84 rfl 85 rfl ?_
              refine g_callIR C (rn_VN C (k_X0_trueStage l g (y 0 (Int32.toNatClampNeg p0)) (S.1 5 (Int32.toNatClampNeg p0)) (S.1 6 (Int32.toNatClampNeg p0)) (S.1 7 (Int32.toNatClampNeg p0)) (S.1 8 (Int32.toNatClampNeg p0))) ⟨va_cnB 0 C.1.2.2.2.2 (gdA wl_303) rfl rfl rfl (nst C (List.mem_of_getElem? (i := 9) rfl)) (C.1.2.2.2.2 _ (List.mem_cons_of_mem _ wl_27)) hd_X0_trueStage.2 ⟨Nat.le_of_ble_eq_true rfl, Nat.le_of_ble_eq_true rfl⟩, C.1.2.2.2.2 _ (List.mem_cons_of_mem _ wl_301), C.1.2.2.2.2 _ (List.mem_cons_of_mem _ wl_302)⟩ (7 + (Int32.toNatClampNeg p0)) (wC_jug hj_5) rfl [7 + (Int32.toNatClampNeg p0)] (hC_c (wC_jug hj_5) hC_n) nd_1 rfl rfl (Nat.le_of_ble_eq_true rfl) ⟨Nat.zero_le _, Nat.zero_le _⟩ dX3_jug_85) 88 rfl ?_
              subst hR
              exact g_iret C hr hlocks hA (by first | (dsimp only; done) | rfl) (by first | (dsimp only; done) | rfl) dX3_jug_88
            · have hR := (if_neg c_20_4).symm.trans hR
              rcases Decidable.em (p1 = 5) with c_20_5 | c_20_5
              · have hR := (if_pos c_20_5).symm.trans hR
                refine g_tableIn C dX3_jug_20 5 c_20_5 (69) 89 (by decide) ?_
                refine g_aload_n C dX3_jug_89 rfl 90 rfl ?_
                refine g_callIR C (rn_VN C (k_X0_coldPoints l g (y 0 (Int32.toNatClampNeg p0)) (S.1 5 (Int32.toNatClampNeg p0)) (S.1 6 (Int32.toNatClampNeg p0)) (S.1 7 (Int32.toNatClampNeg p0)) (S.1 8 (Int32.toNatClampNeg p0))) ⟨va_cnB 0 C.1.2.2.2.2 (gdA wl_174) rfl rfl rfl (nst C (List.mem_of_getElem? (i := 10) rfl)) (C.1.2.2.2.2 _ (List.mem_cons_of_mem _ wl_27)) hd_X0_coldPoints.2 ⟨Nat.le_of_ble_eq_true rfl, Nat.le_of_ble_eq_true rfl⟩, C.1.2.2.2.2 _ (List.mem_cons_of_mem _ wl_172), C.1.2.2.2.2 _ (List.mem_cons_of_mem _ wl_173)⟩ (7 + (Int32.toNatClampNeg p0)) (wC_jug hj_5) rfl [7 + (Int32.toNatClampNeg p0)] (hC_c (wC_jug hj_5) hC_n) nd_1 rfl rfl (Nat.le_of_ble_eq_true rfl) ⟨Nat.zero_le _, Nat.zero_le _⟩ dX3_jug_90) 93 rfl ?_
                subst hR
                exact g_iret C hr hlocks hA (by first | (dsimp only; done) | rfl) (by first | (dsimp only; done) | rfl) dX3_jug_93
              · have hR := (if_neg c_20_5).symm.trans hR
                rcases Decidable.em (p1 = 6) with c_20_6 | c_20_6
                · have hR := (if_pos c_20_6).symm.trans hR
                  refine g_tableIn C dX3_jug_20 6 c_20_6 (74) 94 (by decide) ?_
                  refine g_aload_n C dX3_jug_94 rfl 95 rfl ?_
                  refine g_callIR C (rn_VN C (k_X0_warmPoints l g (y 0 (Int32.toNatClampNeg p0)) (S.1 5 (Int32.toNatClampNeg p0)) (S.1 6 (Int32.toNatClampNeg p0)) (S.1 7 (Int32.toNatClampNeg p0)) (S.1 8 (Int32.toNatClampNeg p0))) ⟨va_cnB 0 C.1.2.2.2.2 (gdA wl_186) rfl rfl rfl (nst C (List.mem_of_getElem? (i := 11) rfl)) (C.1.2.2.2.2 _ (List.mem_cons_of_mem _ wl_27)) hd_X0_warmPoints.2 ⟨Nat.le_of_ble_eq_true rfl, Nat.le_of_ble_eq_true rfl⟩, C.1.2.2.2.2 _ (List.mem_cons_of_mem _ wl_184), C.1.2.2.2.2 _ (List.mem_cons_of_mem _ wl_185)⟩ (7 + (Int32.toNatClampNeg p0)) (wC_jug hj_5) rfl [7 + (Int32.toNatClampNeg p0)] (hC_c (wC_jug hj_5) hC_n) nd_1 rfl rfl (Nat.le_of_ble_eq_true rfl) ⟨Nat.zero_le _, Nat.zero_le _⟩ dX3_jug_95) 98 rfl ?_
                  subst hR
                  exact g_iret C hr hlocks hA (by first | (dsimp only; done) | rfl) (by first | (dsimp only; done) | rfl) dX3_jug_98
                · have hR := (if_neg c_20_6).symm.trans hR
                  refine g_tableD C dX3_jug_20 [0, 1, 2, 3, 4, 5, 6] (ne_c c_20_0 (ne_c c_20_1 (ne_c c_20_2 (ne_c c_20_3 (ne_c c_20_4 (ne_c c_20_5 (ne_c c_20_6 ne_n))))))) (by decide +kernel) (by decide +kernel) 99 (by decide) ?_
                  refine g_aload_n C dX3_jug_99 rfl 100 rfl ?_
                  refine g_bipush C dX3_jug_100 (-2) bp_m2 102 rfl ?_
                  refine g_callI C (rn_V C (k_X3_refuse l g b y S (-2)) (cwV 1 C.1.2.2.2.2 (gdV wl_99 wl_96 wl_97 wl_98 wl_2) rfl rfl rfl hd_X3_refuse ⟨Nat.le_of_ble_eq_true rfl, Nat.le_of_ble_eq_true rfl⟩) 0 rfl rfl _ rg_C rg_n rfl rfl (Nat.le_of_ble_eq_true rfl) ⟨Nat.zero_le _, Nat.zero_le _⟩ dX3_jug_102) (wC g b y ((f_X3_refuse S (-2)).2)) (rg_put (wC_len.trans wC_len.symm)) (rg_len (wC_len.trans wC_len.symm)) 105 rfl ?_
                  subst hR
                  exact g_iret C hr hlocks hA (by first | (dsimp only; done) | rfl) (by first | (dsimp only; done) | rfl) dX3_jug_105
  · refine g_astore_nN C dX3_jug_8 [_, _, _, _] (Nat.le_of_ble_eq_true rfl) rfl rfl 9 rfl ?_
    refine g_aload_nN C dX3_jug_9 rfl 10 rfl ?_
    refine g_nonnullN C dX3_jug_10 13 rfl ?_
    refine g_aload_n C dX3_jug_13 rfl 14 rfl ?_
    refine g_iconst C dX3_jug_14 (-1) ic_m1 15 rfl ?_
    refine g_callI C (rn_V C (k_X3_refuse l g b y S (-1)) (cwV 1 C.1.2.2.2.2 (gdV wl_99 wl_96 wl_97 wl_98 wl_2) rfl rfl rfl hd_X3_refuse ⟨Nat.le_of_ble_eq_true rfl, Nat.le_of_ble_eq_true rfl⟩) 0 rfl rfl _ rg_C rg_n rfl rfl (Nat.le_of_ble_eq_true rfl) ⟨Nat.zero_le _, Nat.zero_le _⟩ dX3_jug_15) (wC g b y ((f_X3_refuse S (-1)).2)) (rg_put (wC_len.trans wC_len.symm)) (rg_len (wC_len.trans wC_len.symm)) 18 rfl ?_
    subst hR
    exact g_iret C hr hlocks hA (by first | (dsimp only; done) | rfl) (by first | (dsimp only; done) | rfl) dX3_jug_18
theorem hd_X3_cold : yX3_cold.cls = RX3 ∧ yX3_cold.cls ≠ "java/lang/invoke/MethodHandle" ∧ yX3_cold.cls ≠ "java/lang/invoke/VarHandle" ∧ (parseMethodDescriptor yX3_cold.desc).map (fun d => d.parameters.length) = some 1 := by decide +kernel
def f_X3_cold (S : (Nat → Nat → Int32) × (Nat → Nat → Int64)) (p0 : Int32) (N_ : Nat) : Option (Int32 × ((Nat → Nat → Int32) × (Nat → Nat → Int64))) :=
  if (f_X3_refusalOutside p0 0 99) = 0 then
    (f_X1_standInCold (kR S.1 0) p0 N_).bind fun v1 =>
    (f_X1_allPoints (kR (kP S.1 0 v1) 0) N_).bind fun v2 =>
    some (v2, ((kP S.1 0 v1), S.2))
  else
    some ((f_X3_refuse S (f_X3_refusalOutside p0 0 99)).1, (f_X3_refuse S (f_X3_refusalOutside p0 0 99)).2)
set_option maxRecDepth 100000 in
set_option maxHeartbeats 4000000 in
theorem k_X3_cold (l : Launch) (g : gE) (b : Nat → Nat) (y : Nat → Nat → Nat) (S : (Nat → Nat → Int32) × (Nat → Nat → Int64)) (p0 : Int32) (N_ : Nat) (R_ : Int32 × ((Nat → Nat → Int32) × (Nat → Nat → Int64))) (hR : f_X3_cold S p0 N_ = some R_) : FnI l g yX3_cold wA_X3_cold { frames := 3, cells := 0, slots := 0, locals := 65 } [.ref (b 0), .int p0] (wC g b y S) R_.1 (wC g b y R_.2) := by
  refine fEntry (As := [.ref (b 0), .int p0]) (maxL := 3) (ret := (some .int)) (by decide) rfl [some (.ref (b 0)), some (.int p0), none] (Nat.le_of_ble_eq_true rfl) (lvInB.to (lvInB.sm (lvInB.sm (lvInB.nn lvInB.nil)))) ?_
  intro p e s m below meth c A C hr hlocks hname hA
  have C : Cx p s m _ c g A cX3_cold 3 wA_X3_cold RX3 := C
  rw [f_X3_cold] at hR
  refine g_iload_n C dX3_cold_0 rfl 1 rfl ?_
  refine g_iconst C dX3_cold_1 0 ic_0 2 rfl ?_
  refine g_bipush C dX3_cold_2 99 bp_99 4 rfl ?_
  refine g_callIR C (rn_S C (k_X3_refusalOutside l g p0 0 99) (va_cwS 3 C.1.2.2.2.2 (gdS wl_92 wl_90 wl_91 wl_2) rfl rfl rfl hd_X3_refusalOutside.2 ⟨Nat.le_of_ble_eq_true rfl, Nat.le_of_ble_eq_true rfl⟩) [] rfl rfl rfl rfl (Nat.le_of_ble_eq_true rfl) ⟨Nat.zero_le _, Nat.zero_le _⟩ dX3_cold_4) 7 rfl ?_
  refine g_istore_n C dX3_cold_7 [_, _, _] (Nat.le_of_ble_eq_true rfl) rfl rfl 8 rfl ?_
  refine g_iload_n C dX3_cold_8 rfl 9 rfl ?_
  refine g_if_eq C dX3_cold_9 hR 18 12 (by decide) rfl (fun c_9 hR => ?_) (fun c_9 hR => ?_)
  · refine g_aload_n C dX3_cold_18 rfl 19 rfl ?_
    refine g_get (v := .ref (b 1)) C (hiC hiA_3) 0 rfl rfl 0 (by decide) (List.mem_cons_of_mem _ wl_15) rfl rfl dX3_cold_19 22 rfl ?_
    refine g_iload_n C dX3_cold_22 rfl 23 rfl ?_
    obtain ⟨v1, hv1, hR⟩ := opt_b hR
    refine g_callV C (rn_VN C (k_X1_standInCold l g (fun i => b (1 + i)) (y 0) (kR S.1 0) p0 N_ v1 hv1) ⟨va_cnB 1 C.1.2.2.2.2 (gdA wl_171) rfl rfl rfl (nst C (List.mem_of_getElem? (i := 2) rfl)) (C.1.2.2.2.2 _ (List.mem_cons_of_mem _ wl_14)) hd_X1_standInCold.2 ⟨Nat.le_of_ble_eq_true rfl, Nat.le_of_ble_eq_true rfl⟩, C.1.2.2.2.2 _ (List.mem_cons_of_mem _ wl_169), C.1.2.2.2.2 _ (List.mem_cons_of_mem _ wl_170)⟩ 1 rfl rfl [1, 2, 3, 4, 5, 6, 7, 8, 9, 10, 11] (wC_k0) rfl rfl rfl (Nat.le_of_ble_eq_true rfl) ⟨Nat.zero_le _, Nat.zero_le _⟩ dX3_cold_23) (wC g b y ((kP S.1 0 v1), S.2)) wC_p0 rfl 26 rfl ?_
    refine g_aload_n C dX3_cold_26 rfl 27 rfl ?_
    refine g_get (v := .ref (b 1)) C (hiC hiA_3) 0 rfl rfl 0 (by decide) (List.mem_cons_of_mem _ wl_15) rfl rfl dX3_cold_27 30 rfl ?_
    obtain ⟨v2, hv2, hR⟩ := opt_b hR
    refine g_callIR C (rn_VN C (k_X1_allPoints l g (fun i => b (1 + i)) (y 0) (kR (kP S.1 0 v1) 0) N_ v2 hv2) ⟨va_cnB 0 C.1.2.2.2.2 (gdA wl_321) rfl rfl rfl (nst C (List.mem_of_getElem? (i := 12) rfl)) (C.1.2.2.2.2 _ (List.mem_cons_of_mem _ wl_14)) hd_X1_allPoints.2 ⟨Nat.le_of_ble_eq_true rfl, Nat.le_of_ble_eq_true rfl⟩, C.1.2.2.2.2 _ (List.mem_cons_of_mem _ wl_319), C.1.2.2.2.2 _ (List.mem_cons_of_mem _ wl_320)⟩ 1 rfl rfl [1, 2, 3, 4, 5, 6, 7, 8, 9, 10, 11] (wC_k0) rfl rfl rfl (Nat.le_of_ble_eq_true rfl) ⟨Nat.zero_le _, Nat.zero_le _⟩ dX3_cold_30) 33 rfl ?_
    obtain rfl := Option.some.inj hR
    exact g_iret C hr hlocks hA (by first | (dsimp only; done) | rfl) (by first | (dsimp only; done) | rfl) dX3_cold_33
  · refine g_aload_n C dX3_cold_12 rfl 13 rfl ?_
    refine g_iload_n C dX3_cold_13 rfl 14 rfl ?_
    refine g_callI C (rn_V C (k_X3_refuse l g b y S (f_X3_refusalOutside p0 0 99)) (cwV 1 C.1.2.2.2.2 (gdV wl_99 wl_96 wl_97 wl_98 wl_2) rfl rfl rfl hd_X3_refuse ⟨Nat.le_of_ble_eq_true rfl, Nat.le_of_ble_eq_true rfl⟩) 0 rfl rfl _ rg_C rg_n rfl rfl (Nat.le_of_ble_eq_true rfl) ⟨Nat.zero_le _, Nat.zero_le _⟩ dX3_cold_14) (wC g b y ((f_X3_refuse S (f_X3_refusalOutside p0 0 99)).2)) (rg_put (wC_len.trans wC_len.symm)) (rg_len (wC_len.trans wC_len.symm)) 17 rfl ?_
    obtain rfl := Option.some.inj hR
    exact g_iret C hr hlocks hA (by first | (dsimp only; done) | rfl) (by first | (dsimp only; done) | rfl) dX3_cold_17
theorem hd_X3_warm : yX3_warm.cls = RX3 ∧ yX3_warm.cls ≠ "java/lang/invoke/MethodHandle" ∧ yX3_warm.cls ≠ "java/lang/invoke/VarHandle" ∧ (parseMethodDescriptor yX3_warm.desc).map (fun d => d.parameters.length) = some 2 := by decide +kernel
def f_X3_warm (S : (Nat → Nat → Int32) × (Nat → Nat → Int64)) (p0 : Int32) (p1 : Int32) : Int32 × ((Nat → Nat → Int32) × (Nat → Nat → Int64)) :=
  if jIn (S.1 0 0) p0 then
    if (f_X3_refusalOutside p1 0 99) = 0 then
      ((upd (S.1 8) (Int32.toNatClampNeg p0) (f_X0_gain (S.1 8 (Int32.toNatClampNeg p0)) (p1 * (f_X0_warmPoints (S.1 5 (Int32.toNatClampNeg p0)) (S.1 6 (Int32.toNatClampNeg p0))))) (Int32.toNatClampNeg p0)), ((kS S.1 8 (upd (S.1 8) (Int32.toNatClampNeg p0) (f_X0_gain (S.1 8 (Int32.toNatClampNeg p0)) (p1 * (f_X0_warmPoints (S.1 5 (Int32.toNatClampNeg p0)) (S.1 6 (Int32.toNatClampNeg p0))))))), S.2))
    else
      ((f_X3_refuse S (f_X3_refusalOutside p1 0 99)).1, (f_X3_refuse S (f_X3_refusalOutside p1 0 99)).2)
  else
    ((f_X3_refuse S (-1)).1, (f_X3_refuse S (-1)).2)
set_option maxRecDepth 100000 in
set_option maxHeartbeats 4000000 in
theorem k_X3_warm (l : Launch) (g : gE) (b : Nat → Nat) (y : Nat → Nat → Nat) (S : (Nat → Nat → Int32) × (Nat → Nat → Int64)) (p0 : Int32) (p1 : Int32) : FnI l g yX3_warm wA_X3_warm { frames := 2, cells := 0, slots := 0, locals := 42 } [.ref (b 0), .int p0, .int p1] (wC g b y S) ((f_X3_warm S p0 p1).1) (wC g b y ((f_X3_warm S p0 p1).2)) := by
  generalize hR : f_X3_warm S p0 p1 = R_
  refine fEntry (As := [.ref (b 0), .int p0, .int p1]) (maxL := 5) (ret := (some .int)) (by decide) rfl [some (.ref (b 0)), some (.int p0), some (.int p1), none, none] (Nat.le_of_ble_eq_true rfl) (lvInB.to (lvInB.sm (lvInB.sm (lvInB.sm (lvInB.nn (lvInB.nn lvInB.nil)))))) ?_
  intro p e s m below meth c A C hr hlocks hname hA
  have C : Cx p s m _ c g A cX3_warm 5 wA_X3_warm RX3 := C
  rw [f_X3_warm] at hR
  refine g_aload_n C dX3_warm_0 rfl 1 rfl ?_
  refine g_get (v := .ref (b 1)) C (hiC hiA_3) 0 rfl rfl 0 (by decide) (List.mem_cons_of_mem _ wl_15) rfl rfl dX3_warm_1 4 rfl ?_
  refine g_iload_n C dX3_warm_4 rfl 5 rfl ?_
  refine g_callQR C (rn_VN C (k_X1_jugAtq l g (b 1) (b 2) (b 3) (b 4) (b 5) (b 6) (S.1 0 0) (S.1 0 1) (S.1 0 2) (S.1 0 3) (S.1 0 4) (y 0) p0) ⟨va_cnB 1 C.1.2.2.2.2 (gdA wl_143) rfl rfl rfl (nst C (List.mem_of_getElem? (i := 8) rfl)) (C.1.2.2.2.2 _ (List.mem_cons_of_mem _ wl_14)) hd_X1_jugAt.2 ⟨Nat.le_of_ble_eq_true rfl, Nat.le_of_ble_eq_true rfl⟩, C.1.2.2.2.2 _ (List.mem_cons_of_mem _ wl_141), C.1.2.2.2.2 _ (List.mem_cons_of_mem _ wl_142)⟩ 1 rfl rfl [1, 2] rfl rfl rfl rfl (Nat.le_of_ble_eq_true rfl) ⟨Nat.zero_le _, Nat.zero_le _⟩ dX3_warm_5) hR 8 rfl (fun c_5 hR => ?_) (fun c_5 hR => ?_)
  · have hj_5 : (Int32.toNatClampNeg p0) < 5 := jIn_lt c_5
    refine g_astore_n C dX3_warm_8 [_, _, _, _, _] (Nat.le_of_ble_eq_true rfl) rfl rfl 9 rfl ?_
    refine g_aload_n C dX3_warm_9 rfl 10 rfl ?_
    refine g_nonnull C dX3_warm_10 17 (by decide) ?_
    refine g_iload_n C dX3_warm_17 rfl 18 rfl ?_
    refine g_iconst C dX3_warm_18 0 ic_0 19 rfl ?_
    refine g_bipush C dX3_warm_19 99 bp_99 21 rfl ?_
    refine g_callIR C (rn_S C (k_X3_refusalOutside l g p1 0 99) (va_cwS 3 C.1.2.2.2.2 (gdS wl_92 wl_90 wl_91 wl_2) rfl rfl rfl hd_X3_refusalOutside.2 ⟨Nat.le_of_ble_eq_true rfl, Nat.le_of_ble_eq_true rfl⟩) [] rfl rfl rfl rfl (Nat.le_of_ble_eq_true rfl) ⟨Nat.zero_le _, Nat.zero_le _⟩ dX3_warm_21) 24 rfl ?_
    refine g_istore C dX3_warm_24 [_, _, _, _, _] (Nat.le_of_ble_eq_true rfl) rfl rfl 26 rfl ?_
    refine g_aload_n C dX3_warm_26 rfl 27 rfl ?_
    refine g_ifnull C dX3_warm_27 30 rfl ?_
    refine g_iload C dX3_warm_30 rfl 32 rfl ?_
    refine g_if_eq C dX3_warm_32 hR 42 35 (by decide) rfl (fun c_32 hR => ?_) (fun c_32 hR => ?_)
    · refine g_aload_n C dX3_warm_42 rfl 43 rfl ?_
      refine g_iload_n C dX3_warm_43 rfl 44 rfl ?_
      refine g_aload_n C dX3_warm_44 rfl 45 rfl ?_
      refine g_callIR C (rn_VN C (k_X0_warmPoints l g (y 0 (Int32.toNatClampNeg p0)) (S.1 5 (Int32.toNatClampNeg p0)) (S.1 6 (Int32.toNatClampNeg p0)) (S.1 7 (Int32.toNatClampNeg p0)) (S.1 8 (Int32.toNatClampNeg p0))) ⟨va_cnB 0 C.1.2.2.2.2 (gdA wl_186) rfl rfl rfl (nst C (List.mem_of_getElem? (i := 11) rfl)) (C.1.2.2.2.2 _ (List.mem_cons_of_mem _ wl_27)) hd_X0_warmPoints.2 ⟨Nat.le_of_ble_eq_true rfl, Nat.le_of_ble_eq_true rfl⟩, C.1.2.2.2.2 _ (List.mem_cons_of_mem _ wl_184), C.1.2.2.2.2 _ (List.mem_cons_of_mem _ wl_185)⟩ (7 + (Int32.toNatClampNeg p0)) (wC_jug hj_5) rfl [7 + (Int32.toNatClampNeg p0)] (hC_c (wC_jug hj_5) hC_n) nd_1 rfl rfl (Nat.le_of_ble_eq_true rfl) ⟨Nat.zero_le _, Nat.zero_le _⟩ dX3_warm_45) 48 rfl ?_
      refine g_imul C dX3_warm_48 49 rfl ?_
      refine g_callV C (rn_VN C (k_X0_gain l g (y 0 (Int32.toNatClampNeg p0)) (S.1 5 (Int32.toNatClampNeg p0)) (S.1 6 (Int32.toNatClampNeg p0)) (S.1 7 (Int32.toNatClampNeg p0)) (S.1 8 (Int32.toNatClampNeg p0)) (p1 * (f_X0_warmPoints (S.1 5 (Int32.toNatClampNeg p0)) (S.1 6 (Int32.toNatClampNeg p0))))) ⟨va_cnB 1 C.1.2.2.2.2 (gdA wl_177) rfl rfl rfl (nst C (List.mem_of_getElem? (i := 13) rfl)) (C.1.2.2.2.2 _ (List.mem_cons_of_mem _ wl_27)) hd_X0_gain.2 ⟨Nat.le_of_ble_eq_true rfl, Nat.le_of_ble_eq_true rfl⟩, C.1.2.2.2.2 _ (List.mem_cons_of_mem _ wl_175), C.1.2.2.2.2 _ (List.mem_cons_of_mem _ wl_176)⟩ (7 + (Int32.toNatClampNeg p0)) (wC_jug hj_5) rfl [7 + (Int32.toNatClampNeg p0)] (hC_c (wC_jug hj_5) hC_n) nd_1 rfl rfl (Nat.le_of_ble_eq_true rfl) ⟨Nat.zero_le _, Nat.zero_le _⟩ dX3_warm_49) (wC g b y ((kS S.1 8 (upd (S.1 8) (Int32.toNatClampNeg p0) (f_X0_gain (S.1 8 (Int32.toNatClampNeg p0)) (p1 * (f_X0_warmPoints (S.1 5 (Int32.toNatClampNeg p0)) (S.1 6 (Int32.toNatClampNeg p0))))))), S.2)) (wC_j3 hj_5) rfl 52 rfl ?_
      refine g_aload_n C dX3_warm_52 rfl 53 rfl ?_
      refine g_getN (v := .int (upd (S.1 8) (Int32.toNatClampNeg p0) (f_X0_gain (S.1 8 (Int32.toNatClampNeg p0)) (p1 * (f_X0_warmPoints (S.1 5 (Int32.toNatClampNeg p0)) (S.1 6 (Int32.toNatClampNeg p0))))) (Int32.toNatClampNeg p0))) C (hiC hiA_0) (7 + (Int32.toNatClampNeg p0)) (wC_jug hj_5) rfl 3 (by decide) (List.mem_of_getElem? (i := 4) rfl) rfl rfl dX3_warm_53 56 rfl ?_
      subst hR
      exact g_iret C hr hlocks hA (by first | (dsimp only; done) | rfl) (by first | (dsimp only; done) | rfl) dX3_warm_56
    · refine g_aload_n C dX3_warm_35 rfl 36 rfl ?_
      refine g_iload C dX3_warm_36 rfl 38 rfl ?_
      refine g_callI C (rn_V C (k_X3_refuse l g b y S (f_X3_refusalOutside p1 0 99)) (cwV 1 C.1.2.2.2.2 (gdV wl_99 wl_96 wl_97 wl_98 wl_2) rfl rfl rfl hd_X3_refuse ⟨Nat.le_of_ble_eq_true rfl, Nat.le_of_ble_eq_true rfl⟩) 0 rfl rfl _ rg_C rg_n rfl rfl (Nat.le_of_ble_eq_true rfl) ⟨Nat.zero_le _, Nat.zero_le _⟩ dX3_warm_38) (wC g b y ((f_X3_refuse S (f_X3_refusalOutside p1 0 99)).2)) (rg_put (wC_len.trans wC_len.symm)) (rg_len (wC_len.trans wC_len.symm)) 41 rfl ?_
      subst hR
      exact g_iret C hr hlocks hA (by first | (dsimp only; done) | rfl) (by first | (dsimp only; done) | rfl) dX3_warm_41
  · refine g_astore_nN C dX3_warm_8 [_, _, _, _, _] (Nat.le_of_ble_eq_true rfl) rfl rfl 9 rfl ?_
    refine g_aload_nN C dX3_warm_9 rfl 10 rfl ?_
    refine g_nonnullN C dX3_warm_10 13 rfl ?_
    refine g_iconst C dX3_warm_13 (-1) ic_m1 14 rfl ?_
    refine g_goto C dX3_warm_14 24 (by decide) ?_
    refine g_istore C dX3_warm_24 [_, _, _, _, _] (Nat.le_of_ble_eq_true rfl) rfl rfl 26 rfl ?_
    refine g_aload_nN C dX3_warm_26 rfl 27 rfl ?_
    refine g_ifnullN C dX3_warm_27 35 (by decide) ?_
    refine g_aload_n C dX3_warm_35 rfl 36 rfl ?_
    refine g_iload C dX3_warm_36 rfl 38 rfl ?_
    refine g_callI C (rn_V C (k_X3_refuse l g b y S (-1)) (cwV 1 C.1.2.2.2.2 (gdV wl_99 wl_96 wl_97 wl_98 wl_2) rfl rfl rfl hd_X3_refuse ⟨Nat.le_of_ble_eq_true rfl, Nat.le_of_ble_eq_true rfl⟩) 0 rfl rfl _ rg_C rg_n rfl rfl (Nat.le_of_ble_eq_true rfl) ⟨Nat.zero_le _, Nat.zero_le _⟩ dX3_warm_38) (wC g b y ((f_X3_refuse S (-1)).2)) (rg_put (wC_len.trans wC_len.symm)) (rg_len (wC_len.trans wC_len.symm)) 41 rfl ?_
    subst hR
    exact g_iret C hr hlocks hA (by first | (dsimp only; done) | rfl) (by first | (dsimp only; done) | rfl) dX3_warm_41
theorem hd_X3_hand : yX3_hand.cls = RX3 ∧ yX3_hand.cls ≠ "java/lang/invoke/MethodHandle" ∧ yX3_hand.cls ≠ "java/lang/invoke/VarHandle" ∧ (parseMethodDescriptor yX3_hand.desc).map (fun d => d.parameters.length) = some 1 := by decide +kernel
def f_X3_hand (S : (Nat → Nat → Int32) × (Nat → Nat → Int64)) (p0 : Int32) : Int32 × ((Nat → Nat → Int32) × (Nat → Nat → Int64)) :=
  if (b2i ((f_X1_takeInHand (S.1 0 0) (S.1 0 1) (S.1 0 2) p0).1)) = 0 then
    ((f_X3_refuse ((kS S.1 0 (upd (upd (S.1 0) 1 ((f_X1_takeInHand (S.1 0 0) (S.1 0 1) (S.1 0 2) p0).2.1)) 2 ((f_X1_takeInHand (S.1 0 0) (S.1 0 1) (S.1 0 2) p0).2.2))), S.2) (-1)).1, (f_X3_refuse ((kS S.1 0 (upd (upd (S.1 0) 1 ((f_X1_takeInHand (S.1 0 0) (S.1 0 1) (S.1 0 2) p0).2.1)) 2 ((f_X1_takeInHand (S.1 0 0) (S.1 0 1) (S.1 0 2) p0).2.2))), S.2) (-1)).2)
  else
    ((S.1 0 1), ((kS S.1 0 (upd (upd (S.1 0) 1 ((f_X1_takeInHand (S.1 0 0) (S.1 0 1) (S.1 0 2) p0).2.1)) 2 ((f_X1_takeInHand (S.1 0 0) (S.1 0 1) (S.1 0 2) p0).2.2))), S.2))
set_option maxRecDepth 100000 in
set_option maxHeartbeats 4000000 in
theorem k_X3_hand (l : Launch) (g : gE) (b : Nat → Nat) (y : Nat → Nat → Nat) (S : (Nat → Nat → Int32) × (Nat → Nat → Int64)) (p0 : Int32) : FnI l g yX3_hand wA_X3_hand { frames := 3, cells := 0, slots := 0, locals := 63 } [.ref (b 0), .int p0] (wC g b y S) ((f_X3_hand S p0).1) (wC g b y ((f_X3_hand S p0).2)) := by
  generalize hR : f_X3_hand S p0 = R_
  refine fEntry (As := [.ref (b 0), .int p0]) (maxL := 3) (ret := (some .int)) (by decide) rfl [some (.ref (b 0)), some (.int p0), none] (Nat.le_of_ble_eq_true rfl) (lvInB.to (lvInB.sm (lvInB.sm (lvInB.nn lvInB.nil)))) ?_
  intro p e s m below meth c A C hr hlocks hname hA
  have C : Cx p s m _ c g A cX3_hand 3 wA_X3_hand RX3 := C
  rw [f_X3_hand] at hR
  refine g_aload_n C dX3_hand_0 rfl 1 rfl ?_
  refine g_get (v := .ref (b 1)) C (hiC hiA_3) 0 rfl rfl 0 (by decide) (List.mem_cons_of_mem _ wl_15) rfl rfl dX3_hand_1 4 rfl ?_
  refine g_getN (v := .int (S.1 0 1)) C (hiC hiA_1) 1 rfl rfl 2 (by decide) (List.mem_of_getElem? (i := 5) rfl) rfl rfl dX3_hand_4 7 rfl ?_
  refine g_istore_n C dX3_hand_7 [_, _, _] (Nat.le_of_ble_eq_true rfl) rfl rfl 8 rfl ?_
  refine g_aload_n C dX3_hand_8 rfl 9 rfl ?_
  refine g_get (v := .ref (b 1)) C (hiC hiA_3) 0 rfl rfl 0 (by decide) (List.mem_cons_of_mem _ wl_15) rfl rfl dX3_hand_9 12 rfl ?_
  refine g_iload_n C dX3_hand_12 rfl 13 rfl ?_
  refine g_callI C (rn_VN C (k_X1_takeInHand l g (b 1) (b 2) (b 3) (b 4) (b 5) (b 6) (S.1 0 0) (S.1 0 1) (S.1 0 2) (S.1 0 3) (S.1 0 4) (y 0) p0) ⟨va_cnB 1 C.1.2.2.2.2 (gdA wl_192) rfl rfl rfl (nst C (List.mem_of_getElem? (i := 5) rfl)) (C.1.2.2.2.2 _ (List.mem_cons_of_mem _ wl_14)) hd_X1_takeInHand.2 ⟨Nat.le_of_ble_eq_true rfl, Nat.le_of_ble_eq_true rfl⟩, C.1.2.2.2.2 _ (List.mem_cons_of_mem _ wl_190), C.1.2.2.2.2 _ (List.mem_cons_of_mem _ wl_191)⟩ 1 rfl rfl [1, 2] rfl rfl rfl rfl (Nat.le_of_ble_eq_true rfl) ⟨Nat.zero_le _, Nat.zero_le _⟩ dX3_hand_13) (wC g b y ((kS S.1 0 (upd (upd (S.1 0) 1 ((f_X1_takeInHand (S.1 0 0) (S.1 0 1) (S.1 0 2) p0).2.1)) 2 ((f_X1_takeInHand (S.1 0 0) (S.1 0 1) (S.1 0 2) p0).2.2))), S.2)) rfl rfl 16 rfl ?_
  refine g_if_eq C dX3_hand_16 hR 23 19 (by decide) rfl (fun c_16 hR => ?_) (fun c_16 hR => ?_)
  · refine g_aload_n C dX3_hand_23 rfl 24 rfl ?_
    refine g_iconst C dX3_hand_24 (-1) ic_m1 25 rfl ?_
    refine g_callI C (rn_V C (k_X3_refuse l g b y ((kS S.1 0 (upd (upd (S.1 0) 1 ((f_X1_takeInHand (S.1 0 0) (S.1 0 1) (S.1 0 2) p0).2.1)) 2 ((f_X1_takeInHand (S.1 0 0) (S.1 0 1) (S.1 0 2) p0).2.2))), S.2) (-1)) (cwV 1 C.1.2.2.2.2 (gdV wl_99 wl_96 wl_97 wl_98 wl_2) rfl rfl rfl hd_X3_refuse ⟨Nat.le_of_ble_eq_true rfl, Nat.le_of_ble_eq_true rfl⟩) 0 rfl rfl _ rg_C rg_n rfl rfl (Nat.le_of_ble_eq_true rfl) ⟨Nat.zero_le _, Nat.zero_le _⟩ dX3_hand_25) (wC g b y ((f_X3_refuse ((kS S.1 0 (upd (upd (S.1 0) 1 ((f_X1_takeInHand (S.1 0 0) (S.1 0 1) (S.1 0 2) p0).2.1)) 2 ((f_X1_takeInHand (S.1 0 0) (S.1 0 1) (S.1 0 2) p0).2.2))), S.2) (-1)).2)) (rg_put (wC_len.trans wC_len.symm)) (rg_len (wC_len.trans wC_len.symm)) 28 rfl ?_
    subst hR
    exact g_iret C hr hlocks hA (by first | (dsimp only; done) | rfl) (by first | (dsimp only; done) | rfl) dX3_hand_28
  · refine g_iload_n C dX3_hand_19 rfl 20 rfl ?_
    refine g_goto C dX3_hand_20 28 (by decide) ?_
    subst hR
    exact g_iret C hr hlocks hA (by first | (dsimp only; done) | rfl) (by first | (dsimp only; done) | rfl) dX3_hand_28
theorem hd_X3_see : yX3_see.cls = RX3 ∧ yX3_see.cls ≠ "java/lang/invoke/MethodHandle" ∧ yX3_see.cls ≠ "java/lang/invoke/VarHandle" ∧ (parseMethodDescriptor yX3_see.desc).map (fun d => d.parameters.length) = some 2 := by decide +kernel
def f_X3_see (S : (Nat → Nat → Int32) × (Nat → Nat → Int64)) (p0 : Int32) (p1 : Int32) : Int32 × ((Nat → Nat → Int32) × (Nat → Nat → Int64)) :=
  if (f_X3_refusalInHand S (f_X3_isOneOf p0 4) (f_X3_isOneOf p1 2)) = 0 then
    if (b2i ((f_X1_addSeen (S.1 0 0) (S.1 0 1) (S.1 0 2) (S.1 1) (S.1 2) p0 p1).1)) = 0 then
      ((f_X3_refuse ((kS (kS (kS S.1 0 (upd (S.1 0) 2 ((f_X1_addSeen (S.1 0 0) (S.1 0 1) (S.1 0 2) (S.1 1) (S.1 2) p0 p1).2.1))) 1 ((f_X1_addSeen (S.1 0 0) (S.1 0 1) (S.1 0 2) (S.1 1) (S.1 2) p0 p1).2.2.1)) 2 ((f_X1_addSeen (S.1 0 0) (S.1 0 1) (S.1 0 2) (S.1 1) (S.1 2) p0 p1).2.2.2)), S.2) (-6)).1, (f_X3_refuse ((kS (kS (kS S.1 0 (upd (S.1 0) 2 ((f_X1_addSeen (S.1 0 0) (S.1 0 1) (S.1 0 2) (S.1 1) (S.1 2) p0 p1).2.1))) 1 ((f_X1_addSeen (S.1 0 0) (S.1 0 1) (S.1 0 2) (S.1 1) (S.1 2) p0 p1).2.2.1)) 2 ((f_X1_addSeen (S.1 0 0) (S.1 0 1) (S.1 0 2) (S.1 1) (S.1 2) p0 p1).2.2.2)), S.2) (-6)).2)
    else
      ((f_X1_addSeen (S.1 0 0) (S.1 0 1) (S.1 0 2) (S.1 1) (S.1 2) p0 p1).2.1, ((kS (kS (kS S.1 0 (upd (S.1 0) 2 ((f_X1_addSeen (S.1 0 0) (S.1 0 1) (S.1 0 2) (S.1 1) (S.1 2) p0 p1).2.1))) 1 ((f_X1_addSeen (S.1 0 0) (S.1 0 1) (S.1 0 2) (S.1 1) (S.1 2) p0 p1).2.2.1)) 2 ((f_X1_addSeen (S.1 0 0) (S.1 0 1) (S.1 0 2) (S.1 1) (S.1 2) p0 p1).2.2.2)), S.2))
  else
    ((f_X3_refuse S (f_X3_refusalInHand S (f_X3_isOneOf p0 4) (f_X3_isOneOf p1 2))).1, (f_X3_refuse S (f_X3_refusalInHand S (f_X3_isOneOf p0 4) (f_X3_isOneOf p1 2))).2)
set_option maxRecDepth 100000 in
set_option maxHeartbeats 4000000 in
theorem k_X3_see (l : Launch) (g : gE) (b : Nat → Nat) (y : Nat → Nat → Nat) (S : (Nat → Nat → Int32) × (Nat → Nat → Int64)) (p0 : Int32) (p1 : Int32) : FnI l g yX3_see wA_X3_see { frames := 4, cells := 0, slots := 0, locals := 84 } [.ref (b 0), .int p0, .int p1] (wC g b y S) ((f_X3_see S p0 p1).1) (wC g b y ((f_X3_see S p0 p1).2)) := by
  generalize hR : f_X3_see S p0 p1 = R_
  refine fEntry (As := [.ref (b 0), .int p0, .int p1]) (maxL := 4) (ret := (some .int)) (by decide) rfl [some (.ref (b 0)), some (.int p0), some (.int p1), none] (Nat.le_of_ble_eq_true rfl) (lvInB.to (lvInB.sm (lvInB.sm (lvInB.sm (lvInB.nn lvInB.nil))))) ?_
  intro p e s m below meth c A C hr hlocks hname hA
  have C : Cx p s m _ c g A cX3_see 4 wA_X3_see RX3 := C
  rw [f_X3_see] at hR
  refine g_aload_n C dX3_see_0 rfl 1 rfl ?_
  refine g_iload_n C dX3_see_1 rfl 2 rfl ?_
  refine g_iconst C dX3_see_2 4 ic_4 3 rfl ?_
  refine g_callIR C (rn_S C (k_X3_isOneOf l g p0 4) (va_cwS 2 C.1.2.2.2.2 (gdS wl_95 wl_93 wl_94 wl_2) rfl rfl rfl hd_X3_isOneOf.2 ⟨Nat.le_of_ble_eq_true rfl, Nat.le_of_ble_eq_true rfl⟩) [] rfl rfl rfl rfl (Nat.le_of_ble_eq_true rfl) ⟨Nat.zero_le _, Nat.zero_le _⟩ dX3_see_3) 6 rfl ?_
  refine g_iload_n C dX3_see_6 rfl 7 rfl ?_
  refine g_iconst C dX3_see_7 2 ic_2 8 rfl ?_
  refine g_callIR C (rn_S C (k_X3_isOneOf l g p1 2) (va_cwS 2 C.1.2.2.2.2 (gdS wl_95 wl_93 wl_94 wl_2) rfl rfl rfl hd_X3_isOneOf.2 ⟨Nat.le_of_ble_eq_true rfl, Nat.le_of_ble_eq_true rfl⟩) [] rfl rfl rfl rfl (Nat.le_of_ble_eq_true rfl) ⟨Nat.zero_le _, Nat.zero_le _⟩ dX3_see_8) 11 rfl ?_
  refine g_callIR C (rn_V C (k_X3_refusalInHand l g b y S (f_X3_isOneOf p0 4) (f_X3_isOneOf p1 2)) (cwV 2 C.1.2.2.2.2 (gdV wl_353 wl_350 wl_351 wl_352 wl_2) rfl rfl rfl hd_X3_refusalInHand ⟨Nat.le_of_ble_eq_true rfl, Nat.le_of_ble_eq_true rfl⟩) 0 rfl rfl _ rg_C rg_n rfl rfl (Nat.le_of_ble_eq_true rfl) ⟨Nat.zero_le _, Nat.zero_le _⟩ dX3_see_11) 14 rfl ?_
  refine g_istore_n C dX3_see_14 [_, _, _, _] (Nat.le_of_ble_eq_true rfl) rfl rfl 15 rfl ?_
  refine g_iload_n C dX3_see_15 rfl 16 rfl ?_
  refine g_if_eq C dX3_see_16 hR 25 19 (by decide) rfl (fun c_16 hR => ?_) (fun c_16 hR => ?_)
  · refine g_aload_n C dX3_see_25 rfl 26 rfl ?_
    refine g_get (v := .ref (b 1)) C (hiC hiA_3) 0 rfl rfl 0 (by decide) (List.mem_cons_of_mem _ wl_15) rfl rfl dX3_see_26 29 rfl ?_
    refine g_iload_n C dX3_see_29 rfl 30 rfl ?_
    refine g_iload_n C dX3_see_30 rfl 31 rfl ?_
    refine g_callI C (rn_VN C (k_X1_addSeen l g (b 1) (b 2) (b 3) (b 4) (b 5) (b 6) (S.1 0 0) (S.1 0 1) (S.1 0 2) (S.1 0 3) (S.1 0 4) (y 0) (S.1 1) (S.1 2) p0 p1) ⟨va_cnB 2 C.1.2.2.2.2 (gdA wl_195) rfl rfl rfl (nst C (List.mem_of_getElem? (i := 6) rfl)) (C.1.2.2.2.2 _ (List.mem_cons_of_mem _ wl_14)) hd_X1_addSeen.2 ⟨Nat.le_of_ble_eq_true rfl, Nat.le_of_ble_eq_true rfl⟩, C.1.2.2.2.2 _ (List.mem_cons_of_mem _ wl_193), C.1.2.2.2.2 _ (List.mem_cons_of_mem _ wl_194)⟩ 1 rfl rfl [1, 2, 3, 4] rfl rfl rfl rfl (Nat.le_of_ble_eq_true rfl) ⟨Nat.zero_le _, Nat.zero_le _⟩ dX3_see_31) (wC g b y ((kS (kS (kS S.1 0 (upd (S.1 0) 2 ((f_X1_addSeen (S.1 0 0) (S.1 0 1) (S.1 0 2) (S.1 1) (S.1 2) p0 p1).2.1))) 1 ((f_X1_addSeen (S.1 0 0) (S.1 0 1) (S.1 0 2) (S.1 1) (S.1 2) p0 p1).2.2.1)) 2 ((f_X1_addSeen (S.1 0 0) (S.1 0 1) (S.1 0 2) (S.1 1) (S.1 2) p0 p1).2.2.2)), S.2)) rfl rfl 34 rfl ?_
    refine g_if_eq C dX3_see_34 hR 47 37 (by decide) rfl (fun c_34 hR => ?_) (fun c_34 hR => ?_)
    · refine g_aload_n C dX3_see_47 rfl 48 rfl ?_
      refine g_bipush C dX3_see_48 (-6) bp_m6 50 rfl ?_
      refine g_callI C (rn_V C (k_X3_refuse l g b y ((kS (kS (kS S.1 0 (upd (S.1 0) 2 ((f_X1_addSeen (S.1 0 0) (S.1 0 1) (S.1 0 2) (S.1 1) (S.1 2) p0 p1).2.1))) 1 ((f_X1_addSeen (S.1 0 0) (S.1 0 1) (S.1 0 2) (S.1 1) (S.1 2) p0 p1).2.2.1)) 2 ((f_X1_addSeen (S.1 0 0) (S.1 0 1) (S.1 0 2) (S.1 1) (S.1 2) p0 p1).2.2.2)), S.2) (-6)) (cwV 1 C.1.2.2.2.2 (gdV wl_99 wl_96 wl_97 wl_98 wl_2) rfl rfl rfl hd_X3_refuse ⟨Nat.le_of_ble_eq_true rfl, Nat.le_of_ble_eq_true rfl⟩) 0 rfl rfl _ rg_C rg_n rfl rfl (Nat.le_of_ble_eq_true rfl) ⟨Nat.zero_le _, Nat.zero_le _⟩ dX3_see_50) (wC g b y ((f_X3_refuse ((kS (kS (kS S.1 0 (upd (S.1 0) 2 ((f_X1_addSeen (S.1 0 0) (S.1 0 1) (S.1 0 2) (S.1 1) (S.1 2) p0 p1).2.1))) 1 ((f_X1_addSeen (S.1 0 0) (S.1 0 1) (S.1 0 2) (S.1 1) (S.1 2) p0 p1).2.2.1)) 2 ((f_X1_addSeen (S.1 0 0) (S.1 0 1) (S.1 0 2) (S.1 1) (S.1 2) p0 p1).2.2.2)), S.2) (-6)).2)) (rg_put (wC_len.trans wC_len.symm)) (rg_len (wC_len.trans wC_len.symm)) 53 rfl ?_
      subst hR
      exact g_iret C hr hlocks hA (by first | (dsimp only; done) | rfl) (by first | (dsimp only; done) | rfl) dX3_see_53
    · refine g_aload_n C dX3_see_37 rfl 38 rfl ?_
      refine g_get (v := .ref (b 1)) C (hiC hiA_3) 0 rfl rfl 0 (by decide) (List.mem_cons_of_mem _ wl_15) rfl rfl dX3_see_38 41 rfl ?_
      refine g_getN (v := .int ((f_X1_addSeen (S.1 0 0) (S.1 0 1) (S.1 0 2) (S.1 1) (S.1 2) p0 p1).2.1)) C (hiC hiA_1) 1 rfl rfl 5 (by decide) (List.mem_of_getElem? (i := 6) rfl) rfl rfl dX3_see_41 44 rfl ?_
      refine g_goto C dX3_see_44 53 (by decide) ?_
      subst hR
      exact g_iret C hr hlocks hA (by first | (dsimp only; done) | rfl) (by first | (dsimp only; done) | rfl) dX3_see_53
  · refine g_aload_n C dX3_see_19 rfl 20 rfl ?_
    refine g_iload_n C dX3_see_20 rfl 21 rfl ?_
    refine g_callI C (rn_V C (k_X3_refuse l g b y S (f_X3_refusalInHand S (f_X3_isOneOf p0 4) (f_X3_isOneOf p1 2))) (cwV 1 C.1.2.2.2.2 (gdV wl_99 wl_96 wl_97 wl_98 wl_2) rfl rfl rfl hd_X3_refuse ⟨Nat.le_of_ble_eq_true rfl, Nat.le_of_ble_eq_true rfl⟩) 0 rfl rfl _ rg_C rg_n rfl rfl (Nat.le_of_ble_eq_true rfl) ⟨Nat.zero_le _, Nat.zero_le _⟩ dX3_see_21) (wC g b y ((f_X3_refuse S (f_X3_refusalInHand S (f_X3_isOneOf p0 4) (f_X3_isOneOf p1 2))).2)) (rg_put (wC_len.trans wC_len.symm)) (rg_len (wC_len.trans wC_len.symm)) 24 rfl ?_
    subst hR
    exact g_iret C hr hlocks hA (by first | (dsimp only; done) | rfl) (by first | (dsimp only; done) | rfl) dX3_see_24
theorem hd_X3_unsee : yX3_unsee.cls = RX3 ∧ yX3_unsee.cls ≠ "java/lang/invoke/MethodHandle" ∧ yX3_unsee.cls ≠ "java/lang/invoke/VarHandle" ∧ (parseMethodDescriptor yX3_unsee.desc).map (fun d => d.parameters.length) = some 0 := by decide +kernel
def f_X3_unsee (S : (Nat → Nat → Int32) × (Nat → Nat → Int64)) : Int32 × ((Nat → Nat → Int32) × (Nat → Nat → Int64)) :=
  if 0 < (S.1 0 2) then
    (((S.1 0 2) - 1), ((kS S.1 0 (upd (S.1 0) 2 ((S.1 0 2) - 1))), S.2))
  else
    ((f_X3_refuse S (-3)).1, (f_X3_refuse S (-3)).2)
set_option maxRecDepth 100000 in
set_option maxHeartbeats 4000000 in
theorem k_X3_unsee (l : Launch) (g : gE) (b : Nat → Nat) (y : Nat → Nat → Nat) (S : (Nat → Nat → Int32) × (Nat → Nat → Int64)) : FnI l g yX3_unsee wA_X3_unsee { frames := 1, cells := 0, slots := 0, locals := 22 } [.ref (b 0)] (wC g b y S) ((f_X3_unsee S).1) (wC g b y ((f_X3_unsee S).2)) := by
  generalize hR : f_X3_unsee S = R_
  refine fEntry (As := [.ref (b 0)]) (maxL := 1) (ret := (some .int)) (by decide) rfl [some (.ref (b 0))] (Nat.le_of_ble_eq_true rfl) (lvInB.to (lvInB.sm lvInB.nil)) ?_
  intro p e s m below meth c A C hr hlocks hname hA
  have C : Cx p s m _ c g A cX3_unsee 1 wA_X3_unsee RX3 := C
  rw [f_X3_unsee] at hR
  refine g_aload_n C dX3_unsee_0 rfl 1 rfl ?_
  refine g_get (v := .ref (b 1)) C (hiC hiA_3) 0 rfl rfl 0 (by decide) (List.mem_cons_of_mem _ wl_15) rfl rfl dX3_unsee_1 4 rfl ?_
  refine g_getN (v := .int (S.1 0 2)) C (hiC hiA_1) 1 rfl rfl 5 (by decide) (List.mem_of_getElem? (i := 6) rfl) rfl rfl dX3_unsee_4 7 rfl ?_
  refine g_if_gt C dX3_unsee_7 hR 17 10 (by decide) rfl (fun c_7 hR => ?_) (fun c_7 hR => ?_)
  · refine g_aload_n C dX3_unsee_17 rfl 18 rfl ?_
    refine g_get (v := .ref (b 1)) C (hiC hiA_3) 0 rfl rfl 0 (by decide) (List.mem_cons_of_mem _ wl_15) rfl rfl dX3_unsee_18 21 rfl ?_
    refine g_dup C dX3_unsee_21 rfl 22 rfl ?_
    refine g_getN (v := .int (S.1 0 2)) C (hiC hiA_1) 1 rfl rfl 5 (by decide) (List.mem_of_getElem? (i := 6) rfl) rfl rfl dX3_unsee_22 25 rfl ?_
    refine g_iconst C dX3_unsee_25 1 ic_1 26 rfl ?_
    refine g_isub C dX3_unsee_26 27 rfl ?_
    refine g_putN C (hiC hiA_1) tyX1 tyX1_ok nmX1 1 rfl rfl 5 (by decide) (List.mem_of_getElem? (i := 6) rfl) rfl rfl rfl rfl (Nat.le_of_ble_eq_true rfl) dX3_unsee_27 (wC g b y ((kS S.1 0 (upd (S.1 0) 2 ((S.1 0 2) - 1))), S.2)) rfl 30 rfl ?_
    refine g_aload_n C dX3_unsee_30 rfl 31 rfl ?_
    refine g_get (v := .ref (b 1)) C (hiC hiA_3) 0 rfl rfl 0 (by decide) (List.mem_cons_of_mem _ wl_15) rfl rfl dX3_unsee_31 34 rfl ?_
    refine g_getN (v := .int ((S.1 0 2) - 1)) C (hiC hiA_1) 1 rfl rfl 5 (by decide) (List.mem_of_getElem? (i := 6) rfl) rfl rfl dX3_unsee_34 37 rfl ?_
    subst hR
    exact g_iret C hr hlocks hA (by first | (dsimp only; done) | rfl) (by first | (dsimp only; done) | rfl) dX3_unsee_37
  · refine g_aload_n C dX3_unsee_10 rfl 11 rfl ?_
    refine g_bipush C dX3_unsee_11 (-3) bp_m3 13 rfl ?_
    refine g_callI C (rn_V C (k_X3_refuse l g b y S (-3)) (cwV 1 C.1.2.2.2.2 (gdV wl_99 wl_96 wl_97 wl_98 wl_2) rfl rfl rfl hd_X3_refuse ⟨Nat.le_of_ble_eq_true rfl, Nat.le_of_ble_eq_true rfl⟩) 0 rfl rfl _ rg_C rg_n rfl rfl (Nat.le_of_ble_eq_true rfl) ⟨Nat.zero_le _, Nat.zero_le _⟩ dX3_unsee_13) (wC g b y ((f_X3_refuse S (-3)).2)) (rg_put (wC_len.trans wC_len.symm)) (rg_len (wC_len.trans wC_len.symm)) 16 rfl ?_
    subst hR
    exact g_iret C hr hlocks hA (by first | (dsimp only; done) | rfl) (by first | (dsimp only; done) | rfl) dX3_unsee_16
theorem hd_X3_cost : yX3_cost.cls = RX3 ∧ yX3_cost.cls ≠ "java/lang/invoke/MethodHandle" ∧ yX3_cost.cls ≠ "java/lang/invoke/VarHandle" ∧ (parseMethodDescriptor yX3_cost.desc).map (fun d => d.parameters.length) = some 2 := by decide +kernel
def f_X3_cost (S : (Nat → Nat → Int32) × (Nat → Nat → Int64)) (p0 : Int32) (p1 : Int32) : Int32 × ((Nat → Nat → Int32) × (Nat → Nat → Int64)) :=
  if (b2i (f_X3_isOneOf p0 4)) = 0 then
    ((f_X3_refuse S (-1)).1, (f_X3_refuse S (-1)).2)
  else
    if (f_X3_refusalOutside p1 0 9) = 0 then
      ((f_X1_costOf (S.1 3) p0), ((kS S.1 3 ((f_X1_setCost (S.1 3) p0 p1).2)), S.2))
    else
      ((f_X3_refuse S (f_X3_refusalOutside p1 0 9)).1, (f_X3_refuse S (f_X3_refusalOutside p1 0 9)).2)
set_option maxRecDepth 100000 in
set_option maxHeartbeats 4000000 in
theorem k_X3_cost (l : Launch) (g : gE) (b : Nat → Nat) (y : Nat → Nat → Nat) (S : (Nat → Nat → Int32) × (Nat → Nat → Int64)) (p0 : Int32) (p1 : Int32) : FnI l g yX3_cost wA_X3_cost { frames := 2, cells := 0, slots := 0, locals := 43 } [.ref (b 0), .int p0, .int p1] (wC g b y S) ((f_X3_cost S p0 p1).1) (wC g b y ((f_X3_cost S p0 p1).2)) := by
  generalize hR : f_X3_cost S p0 p1 = R_
  refine fEntry (As := [.ref (b 0), .int p0, .int p1]) (maxL := 5) (ret := (some .int)) (by decide) rfl [some (.ref (b 0)), some (.int p0), some (.int p1), none, none] (Nat.le_of_ble_eq_true rfl) (lvInB.to (lvInB.sm (lvInB.sm (lvInB.sm (lvInB.nn (lvInB.nn lvInB.nil)))))) ?_
  intro p e s m below meth c A C hr hlocks hname hA
  have C : Cx p s m _ c g A cX3_cost 5 wA_X3_cost RX3 := C
  rw [f_X3_cost] at hR
  refine g_iload_n C dX3_cost_0 rfl 1 rfl ?_
  refine g_iconst C dX3_cost_1 4 ic_4 2 rfl ?_
  refine g_callIR C (rn_S C (k_X3_isOneOf l g p0 4) (va_cwS 2 C.1.2.2.2.2 (gdS wl_95 wl_93 wl_94 wl_2) rfl rfl rfl hd_X3_isOneOf.2 ⟨Nat.le_of_ble_eq_true rfl, Nat.le_of_ble_eq_true rfl⟩) [] rfl rfl rfl rfl (Nat.le_of_ble_eq_true rfl) ⟨Nat.zero_le _, Nat.zero_le _⟩ dX3_cost_2) 5 rfl ?_
  refine g_if_eq C dX3_cost_5 hR 18 8 (by decide) rfl (fun c_5 hR => ?_) (fun c_5 hR => ?_)
  · refine g_iconst C dX3_cost_18 (-1) ic_m1 19 rfl ?_
    refine g_istore_n C dX3_cost_19 [_, _, _, _, _] (Nat.le_of_ble_eq_true rfl) rfl rfl 20 rfl ?_
    refine g_iload_n C dX3_cost_20 rfl 21 rfl ?_
    refine g_if_eqF C dX3_cost_21 (by decide) 30 24 (by decide) rfl ?_
    refine g_aload_n C dX3_cost_24 rfl 25 rfl ?_
    refine g_iload_n C dX3_cost_25 rfl 26 rfl ?_
    refine g_callI C (rn_V C (k_X3_refuse l g b y S (-1)) (cwV 1 C.1.2.2.2.2 (gdV wl_99 wl_96 wl_97 wl_98 wl_2) rfl rfl rfl hd_X3_refuse ⟨Nat.le_of_ble_eq_true rfl, Nat.le_of_ble_eq_true rfl⟩) 0 rfl rfl _ rg_C rg_n rfl rfl (Nat.le_of_ble_eq_true rfl) ⟨Nat.zero_le _, Nat.zero_le _⟩ dX3_cost_26) (wC g b y ((f_X3_refuse S (-1)).2)) (rg_put (wC_len.trans wC_len.symm)) (rg_len (wC_len.trans wC_len.symm)) 29 rfl ?_
    subst hR
    exact g_iret C hr hlocks hA (by first | (dsimp only; done) | rfl) (by first | (dsimp only; done) | rfl) dX3_cost_29
  · refine g_iload_n C dX3_cost_8 rfl 9 rfl ?_
    refine g_iconst C dX3_cost_9 0 ic_0 10 rfl ?_
    refine g_bipush C dX3_cost_10 9 bp_9 12 rfl ?_
    refine g_callIR C (rn_S C (k_X3_refusalOutside l g p1 0 9) (va_cwS 3 C.1.2.2.2.2 (gdS wl_92 wl_90 wl_91 wl_2) rfl rfl rfl hd_X3_refusalOutside.2 ⟨Nat.le_of_ble_eq_true rfl, Nat.le_of_ble_eq_true rfl⟩) [] rfl rfl rfl rfl (Nat.le_of_ble_eq_true rfl) ⟨Nat.zero_le _, Nat.zero_le _⟩ dX3_cost_12) 15 rfl ?_
    refine g_goto C dX3_cost_15 19 (by decide) ?_
    refine g_istore_n C dX3_cost_19 [_, _, _, _, _] (Nat.le_of_ble_eq_true rfl) rfl rfl 20 rfl ?_
    refine g_iload_n C dX3_cost_20 rfl 21 rfl ?_
    refine g_if_eq C dX3_cost_21 hR 30 24 (by decide) rfl (fun c_21 hR => ?_) (fun c_21 hR => ?_)
    · refine g_aload_n C dX3_cost_30 rfl 31 rfl ?_
      refine g_get (v := .ref (b 1)) C (hiC hiA_3) 0 rfl rfl 0 (by decide) (List.mem_cons_of_mem _ wl_15) rfl rfl dX3_cost_31 34 rfl ?_
      refine g_iload_n C dX3_cost_34 rfl 35 rfl ?_
      refine g_callIR C (rn_VN C (k_X1_costOf l g (b 1) (b 2) (b 3) (b 4) (b 5) (b 6) (S.1 0 0) (S.1 0 1) (S.1 0 2) (S.1 0 3) (S.1 0 4) (S.1 3) p0) ⟨va_cnB 1 C.1.2.2.2.2 (gdA wl_383) rfl rfl rfl (nst C (List.mem_of_getElem? (i := 15) rfl)) (C.1.2.2.2.2 _ (List.mem_cons_of_mem _ wl_14)) hd_X1_costOf.2 ⟨Nat.le_of_ble_eq_true rfl, Nat.le_of_ble_eq_true rfl⟩, C.1.2.2.2.2 _ (List.mem_cons_of_mem _ wl_381), C.1.2.2.2.2 _ (List.mem_cons_of_mem _ wl_382)⟩ 1 rfl rfl [1, 5] rfl rfl rfl rfl (Nat.le_of_ble_eq_true rfl) ⟨Nat.zero_le _, Nat.zero_le _⟩ dX3_cost_35) 38 rfl ?_
      refine g_istore C dX3_cost_38 [_, _, _, _, _] (Nat.le_of_ble_eq_true rfl) rfl rfl 40 rfl ?_
      refine g_aload_n C dX3_cost_40 rfl 41 rfl ?_
      refine g_get (v := .ref (b 1)) C (hiC hiA_3) 0 rfl rfl 0 (by decide) (List.mem_cons_of_mem _ wl_15) rfl rfl dX3_cost_41 44 rfl ?_
      refine g_iload_n C dX3_cost_44 rfl 45 rfl ?_
      refine g_iload_n C dX3_cost_45 rfl 46 rfl ?_
      refine g_callI C (rn_VN C (k_X1_setCost l g (b 1) (b 2) (b 3) (b 4) (b 5) (b 6) (S.1 0 0) (S.1 0 1) (S.1 0 2) (S.1 0 3) (S.1 0 4) (S.1 3) p0 p1) ⟨va_cnB 2 C.1.2.2.2.2 (gdA wl_189) rfl rfl rfl (nst C (List.mem_of_getElem? (i := 4) rfl)) (C.1.2.2.2.2 _ (List.mem_cons_of_mem _ wl_14)) hd_X1_setCost.2 ⟨Nat.le_of_ble_eq_true rfl, Nat.le_of_ble_eq_true rfl⟩, C.1.2.2.2.2 _ (List.mem_cons_of_mem _ wl_187), C.1.2.2.2.2 _ (List.mem_cons_of_mem _ wl_188)⟩ 1 rfl rfl [1, 5] rfl rfl rfl rfl (Nat.le_of_ble_eq_true rfl) ⟨Nat.zero_le _, Nat.zero_le _⟩ dX3_cost_46) (wC g b y ((kS S.1 3 ((f_X1_setCost (S.1 3) p0 p1).2)), S.2)) rfl rfl 49 rfl ?_
      refine g_pop C dX3_cost_49 rfl 50 rfl ?_
      refine g_iload C dX3_cost_50 rfl 52 rfl ?_
      subst hR
      exact g_iret C hr hlocks hA (by first | (dsimp only; done) | rfl) (by first | (dsimp only; done) | rfl) dX3_cost_52
    · refine g_aload_n C dX3_cost_24 rfl 25 rfl ?_
      refine g_iload_n C dX3_cost_25 rfl 26 rfl ?_
      refine g_callI C (rn_V C (k_X3_refuse l g b y S (f_X3_refusalOutside p1 0 9)) (cwV 1 C.1.2.2.2.2 (gdV wl_99 wl_96 wl_97 wl_98 wl_2) rfl rfl rfl hd_X3_refuse ⟨Nat.le_of_ble_eq_true rfl, Nat.le_of_ble_eq_true rfl⟩) 0 rfl rfl _ rg_C rg_n rfl rfl (Nat.le_of_ble_eq_true rfl) ⟨Nat.zero_le _, Nat.zero_le _⟩ dX3_cost_26) (wC g b y ((f_X3_refuse S (f_X3_refusalOutside p1 0 9)).2)) (rg_put (wC_len.trans wC_len.symm)) (rg_len (wC_len.trans wC_len.symm)) 29 rfl ?_
      subst hR
      exact g_iret C hr hlocks hA (by first | (dsimp only; done) | rfl) (by first | (dsimp only; done) | rfl) dX3_cost_29
theorem hd_X3_price : yX3_price.cls = RX3 ∧ yX3_price.cls ≠ "java/lang/invoke/MethodHandle" ∧ yX3_price.cls ≠ "java/lang/invoke/VarHandle" ∧ (parseMethodDescriptor yX3_price.desc).map (fun d => d.parameters.length) = some 1 := by decide +kernel
def f_X3_price (S : (Nat → Nat → Int32) × (Nat → Nat → Int64)) (p0 : Int32) : Int32 × ((Nat → Nat → Int32) × (Nat → Nat → Int64)) :=
  if (f_X3_refusalOutside p0 0 9) = 0 then
    ((S.1 0 3), ((kS S.1 0 (upd (S.1 0) 3 p0)), S.2))
  else
    ((f_X3_refuse S (f_X3_refusalOutside p0 0 9)).1, (f_X3_refuse S (f_X3_refusalOutside p0 0 9)).2)
set_option maxRecDepth 100000 in
set_option maxHeartbeats 4000000 in
theorem k_X3_price (l : Launch) (g : gE) (b : Nat → Nat) (y : Nat → Nat → Nat) (S : (Nat → Nat → Int32) × (Nat → Nat → Int64)) (p0 : Int32) : FnI l g yX3_price wA_X3_price { frames := 1, cells := 0, slots := 0, locals := 22 } [.ref (b 0), .int p0] (wC g b y S) ((f_X3_price S p0).1) (wC g b y ((f_X3_price S p0).2)) := by
  generalize hR : f_X3_price S p0 = R_
  refine fEntry (As := [.ref (b 0), .int p0]) (maxL := 4) (ret := (some .int)) (by decide) rfl [some (.ref (b 0)), some (.int p0), none, none] (Nat.le_of_ble_eq_true rfl) (lvInB.to (lvInB.sm (lvInB.sm (lvInB.nn (lvInB.nn lvInB.nil))))) ?_
  intro p e s m below meth c A C hr hlocks hname hA
  have C : Cx p s m _ c g A cX3_price 4 wA_X3_price RX3 := C
  rw [f_X3_price] at hR
  refine g_iload_n C dX3_price_0 rfl 1 rfl ?_
  refine g_iconst C dX3_price_1 0 ic_0 2 rfl ?_
  refine g_bipush C dX3_price_2 9 bp_9 4 rfl ?_
  refine g_callIR C (rn_S C (k_X3_refusalOutside l g p0 0 9) (va_cwS 3 C.1.2.2.2.2 (gdS wl_92 wl_90 wl_91 wl_2) rfl rfl rfl hd_X3_refusalOutside.2 ⟨Nat.le_of_ble_eq_true rfl, Nat.le_of_ble_eq_true rfl⟩) [] rfl rfl rfl rfl (Nat.le_of_ble_eq_true rfl) ⟨Nat.zero_le _, Nat.zero_le _⟩ dX3_price_4) 7 rfl ?_
  refine g_istore_n C dX3_price_7 [_, _, _, _] (Nat.le_of_ble_eq_true rfl) rfl rfl 8 rfl ?_
  refine g_iload_n C dX3_price_8 rfl 9 rfl ?_
  refine g_if_eq C dX3_price_9 hR 18 12 (by decide) rfl (fun c_9 hR => ?_) (fun c_9 hR => ?_)
  · refine g_aload_n C dX3_price_18 rfl 19 rfl ?_
    refine g_get (v := .ref (b 1)) C (hiC hiA_3) 0 rfl rfl 0 (by decide) (List.mem_cons_of_mem _ wl_15) rfl rfl dX3_price_19 22 rfl ?_
    refine g_getN (v := .int (S.1 0 3)) C (hiC hiA_1) 1 rfl rfl 7 (by decide) (List.mem_of_getElem? (i := 0) rfl) rfl rfl dX3_price_22 25 rfl ?_
    refine g_istore_n C dX3_price_25 [_, _, _, _] (Nat.le_of_ble_eq_true rfl) rfl rfl 26 rfl ?_
    refine g_aload_n C dX3_price_26 rfl 27 rfl ?_
    refine g_get (v := .ref (b 1)) C (hiC hiA_3) 0 rfl rfl 0 (by decide) (List.mem_cons_of_mem _ wl_15) rfl rfl dX3_price_27 30 rfl ?_
    refine g_iload_n C dX3_price_30 rfl 31 rfl ?_
    refine g_putN C (hiC hiA_1) tyX1 tyX1_ok nmX1 1 rfl rfl 7 (by decide) (List.mem_of_getElem? (i := 0) rfl) rfl rfl rfl rfl (Nat.le_of_ble_eq_true rfl) dX3_price_31 (wC g b y ((kS S.1 0 (upd (S.1 0) 3 p0)), S.2)) rfl 34 rfl ?_
    refine g_iload_n C dX3_price_34 rfl 35 rfl ?_
    subst hR
    exact g_iret C hr hlocks hA (by first | (dsimp only; done) | rfl) (by first | (dsimp only; done) | rfl) dX3_price_35
  · refine g_aload_n C dX3_price_12 rfl 13 rfl ?_
    refine g_iload_n C dX3_price_13 rfl 14 rfl ?_
    refine g_callI C (rn_V C (k_X3_refuse l g b y S (f_X3_refusalOutside p0 0 9)) (cwV 1 C.1.2.2.2.2 (gdV wl_99 wl_96 wl_97 wl_98 wl_2) rfl rfl rfl hd_X3_refuse ⟨Nat.le_of_ble_eq_true rfl, Nat.le_of_ble_eq_true rfl⟩) 0 rfl rfl _ rg_C rg_n rfl rfl (Nat.le_of_ble_eq_true rfl) ⟨Nat.zero_le _, Nat.zero_le _⟩ dX3_price_14) (wC g b y ((f_X3_refuse S (f_X3_refusalOutside p0 0 9)).2)) (rg_put (wC_len.trans wC_len.symm)) (rg_len (wC_len.trans wC_len.symm)) 17 rfl ?_
    subst hR
    exact g_iret C hr hlocks hA (by first | (dsimp only; done) | rfl) (by first | (dsimp only; done) | rfl) dX3_price_17
theorem hd_X3_says : yX3_says.cls = RX3 ∧ yX3_says.cls ≠ "java/lang/invoke/MethodHandle" ∧ yX3_says.cls ≠ "java/lang/invoke/VarHandle" ∧ (parseMethodDescriptor yX3_says.desc).map (fun d => d.parameters.length) = some 2 := by decide +kernel
def f_X3_says (S : (Nat → Nat → Int32) × (Nat → Nat → Int64)) (p0 : Int32) (p1 : Int32) (N_ : Nat) : Option (Int32 × ((Nat → Nat → Int32) × (Nat → Nat → Int64))) :=
  if (b2i (f_X3_isOneOf p0 4)) = 0 then
    if (f_X3_refusalInHand S false true) = 0 then
      (f_X3_think S N_).bind fun v1 =>
      some ((f_X0_offTenths (v1.1 34 0) p0 p1), v1)
    else
      some ((f_X3_refuse S (f_X3_refusalInHand S false true)).1, (f_X3_refuse S (f_X3_refusalInHand S false true)).2)
  else
    if (b2i (f_X3_isOneOf p1 5)) = 0 then
      if (f_X3_refusalInHand S false true) = 0 then
        (f_X3_think S N_).bind fun v2 =>
        some ((f_X0_offTenths (v2.1 34 0) p0 p1), v2)
      else
        some ((f_X3_refuse S (f_X3_refusalInHand S false true)).1, (f_X3_refuse S (f_X3_refusalInHand S false true)).2)
    else
      if (f_X3_refusalInHand S true true) = 0 then
        (f_X3_think S N_).bind fun v3 =>
        some ((f_X0_offTenths (v3.1 34 0) p0 p1), v3)
      else
        some ((f_X3_refuse S (f_X3_refusalInHand S true true)).1, (f_X3_refuse S (f_X3_refusalInHand S true true)).2)
set_option maxRecDepth 100000 in
set_option maxHeartbeats 4000000 in
theorem k_X3_says (l : Launch) (g : gE) (b : Nat → Nat) (y : Nat → Nat → Nat) (S : (Nat → Nat → Int32) × (Nat → Nat → Int64)) (p0 : Int32) (p1 : Int32) (N_ : Nat) (R_ : Int32 × ((Nat → Nat → Int32) × (Nat → Nat → Int64))) (hR : f_X3_says S p0 p1 N_ = some R_) : FnI l g yX3_says wA_X3_says { frames := 5, cells := 0, slots := 0, locals := 107 } [.ref (b 0), .int p0, .int p1] (wC g b y S) R_.1 (wC g b y R_.2) := by
  refine fEntry (As := [.ref (b 0), .int p0, .int p1]) (maxL := 4) (ret := (some .int)) (by decide) rfl [some (.ref (b 0)), some (.int p0), some (.int p1), none] (Nat.le_of_ble_eq_true rfl) (lvInB.to (lvInB.sm (lvInB.sm (lvInB.sm (lvInB.nn lvInB.nil))))) ?_
  intro p e s m below meth c A C hr hlocks hname hA
  have C : Cx p s m _ c g A cX3_says 4 wA_X3_says RX3 := C
  rw [f_X3_says] at hR
  refine g_aload_n C dX3_says_0 rfl 1 rfl ?_
  refine g_iload_n C dX3_says_1 rfl 2 rfl ?_
  refine g_iconst C dX3_says_2 4 ic_4 3 rfl ?_
  refine g_callIR C (rn_S C (k_X3_isOneOf l g p0 4) (va_cwS 2 C.1.2.2.2.2 (gdS wl_95 wl_93 wl_94 wl_2) rfl rfl rfl hd_X3_isOneOf.2 ⟨Nat.le_of_ble_eq_true rfl, Nat.le_of_ble_eq_true rfl⟩) [] rfl rfl rfl rfl (Nat.le_of_ble_eq_true rfl) ⟨Nat.zero_le _, Nat.zero_le _⟩ dX3_says_3) 6 rfl ?_
  refine g_if_eq C dX3_says_6 hR 21 9 (by decide) rfl (fun c_6 hR => ?_) (fun c_6 hR => ?_)
  · refine g_iconst C dX3_says_21 0 ic_0 22 rfl ?_
    refine g_iconst C dX3_says_22 1 ic_1 23 rfl ?_
    refine g_callIR C (rn_V C (k_X3_refusalInHand l g b y S false true) (cwV 2 C.1.2.2.2.2 (gdV wl_353 wl_350 wl_351 wl_352 wl_2) rfl rfl rfl hd_X3_refusalInHand ⟨Nat.le_of_ble_eq_true rfl, Nat.le_of_ble_eq_true rfl⟩) 0 rfl rfl _ rg_C rg_n rfl rfl (Nat.le_of_ble_eq_true rfl) ⟨Nat.zero_le _, Nat.zero_le _⟩ dX3_says_23) 26 rfl ?_
    refine g_istore_n C dX3_says_26 [_, _, _, _] (Nat.le_of_ble_eq_true rfl) rfl rfl 27 rfl ?_
    refine g_iload_n C dX3_says_27 rfl 28 rfl ?_
    refine g_if_eq C dX3_says_28 hR 37 31 (by decide) rfl (fun c_28 hR => ?_) (fun c_28 hR => ?_)
    · refine g_aload_n C dX3_says_37 rfl 38 rfl ?_
      obtain ⟨v1, hv1, hR⟩ := opt_b hR
      refine g_callV C (rn_V C (k_X3_think l g b y S N_ v1 hv1) (cwV 0 C.1.2.2.2.2 (gdV wl_403 wl_400 wl_401 wl_402 wl_2) rfl rfl rfl hd_X3_think ⟨Nat.le_of_ble_eq_true rfl, Nat.le_of_ble_eq_true rfl⟩) 0 rfl rfl _ rg_C rg_n rfl rfl (Nat.le_of_ble_eq_true rfl) ⟨Nat.zero_le _, Nat.zero_le _⟩ dX3_says_38) (wC g b y v1) (rg_put (wC_len.trans wC_len.symm)) (rg_len (wC_len.trans wC_len.symm)) 41 rfl ?_
      refine g_aload_n C dX3_says_41 rfl 42 rfl ?_
      refine g_get (v := .ref (b 22)) C (hiC hiA_3) 0 rfl rfl 9 (by decide) (List.mem_cons_of_mem _ wl_28) rfl rfl dX3_says_42 45 rfl ?_
      refine g_iload_n C dX3_says_45 rfl 46 rfl ?_
      refine g_iload_n C dX3_says_46 rfl 47 rfl ?_
      refine g_callIR C (rn_VN C (k_X0_offTenths l g (b 22) (v1.1 34 0) (v1.1 34 1) (v1.1 34 2) (v1.1 34 3) p0 p1) ⟨va_cnB 2 C.1.2.2.2.2 (gdA wl_420) rfl rfl rfl (nst C (List.mem_of_getElem? (i := 16) rfl)) (C.1.2.2.2.2 _ (List.mem_cons_of_mem _ wl_27)) hd_X0_offTenths.2 ⟨Nat.le_of_ble_eq_true rfl, Nat.le_of_ble_eq_true rfl⟩, C.1.2.2.2.2 _ (List.mem_cons_of_mem _ wl_418), C.1.2.2.2.2 _ (List.mem_cons_of_mem _ wl_419)⟩ 37 rfl rfl [37] rfl rfl rfl rfl (Nat.le_of_ble_eq_true rfl) ⟨Nat.zero_le _, Nat.zero_le _⟩ dX3_says_47) 50 rfl ?_
      obtain rfl := Option.some.inj hR
      exact g_iret C hr hlocks hA (by first | (dsimp only; done) | rfl) (by first | (dsimp only; done) | rfl) dX3_says_50
    · refine g_aload_n C dX3_says_31 rfl 32 rfl ?_
      refine g_iload_n C dX3_says_32 rfl 33 rfl ?_
      refine g_callI C (rn_V C (k_X3_refuse l g b y S (f_X3_refusalInHand S false true)) (cwV 1 C.1.2.2.2.2 (gdV wl_99 wl_96 wl_97 wl_98 wl_2) rfl rfl rfl hd_X3_refuse ⟨Nat.le_of_ble_eq_true rfl, Nat.le_of_ble_eq_true rfl⟩) 0 rfl rfl _ rg_C rg_n rfl rfl (Nat.le_of_ble_eq_true rfl) ⟨Nat.zero_le _, Nat.zero_le _⟩ dX3_says_33) (wC g b y ((f_X3_refuse S (f_X3_refusalInHand S false true)).2)) (rg_put (wC_len.trans wC_len.symm)) (rg_len (wC_len.trans wC_len.symm)) 36 rfl ?_
      obtain rfl := Option.some.inj hR
      exact g_iret C hr hlocks hA (by first | (dsimp only; done) | rfl) (by first | (dsimp only; done) | rfl) dX3_says_36
  · refine g_iload_n C dX3_says_9 rfl 10 rfl ?_
    refine g_iconst C dX3_says_10 5 ic_5 11 rfl ?_
    refine g_callIR C (rn_S C (k_X3_isOneOf l g p1 5) (va_cwS 2 C.1.2.2.2.2 (gdS wl_95 wl_93 wl_94 wl_2) rfl rfl rfl hd_X3_isOneOf.2 ⟨Nat.le_of_ble_eq_true rfl, Nat.le_of_ble_eq_true rfl⟩) [] rfl rfl rfl rfl (Nat.le_of_ble_eq_true rfl) ⟨Nat.zero_le _, Nat.zero_le _⟩ dX3_says_11) 14 rfl ?_
    refine g_if_eq C dX3_says_14 hR 21 17 (by decide) rfl (fun c_14 hR => ?_) (fun c_14 hR => ?_)
    · refine g_iconst C dX3_says_21 0 ic_0 22 rfl ?_
      refine g_iconst C dX3_says_22 1 ic_1 23 rfl ?_
      refine g_callIR C (rn_V C (k_X3_refusalInHand l g b y S false true) (cwV 2 C.1.2.2.2.2 (gdV wl_353 wl_350 wl_351 wl_352 wl_2) rfl rfl rfl hd_X3_refusalInHand ⟨Nat.le_of_ble_eq_true rfl, Nat.le_of_ble_eq_true rfl⟩) 0 rfl rfl _ rg_C rg_n rfl rfl (Nat.le_of_ble_eq_true rfl) ⟨Nat.zero_le _, Nat.zero_le _⟩ dX3_says_23) 26 rfl ?_
      refine g_istore_n C dX3_says_26 [_, _, _, _] (Nat.le_of_ble_eq_true rfl) rfl rfl 27 rfl ?_
      refine g_iload_n C dX3_says_27 rfl 28 rfl ?_
      refine g_if_eq C dX3_says_28 hR 37 31 (by decide) rfl (fun c_28 hR => ?_) (fun c_28 hR => ?_)
      · refine g_aload_n C dX3_says_37 rfl 38 rfl ?_
        obtain ⟨v2, hv2, hR⟩ := opt_b hR
        refine g_callV C (rn_V C (k_X3_think l g b y S N_ v2 hv2) (cwV 0 C.1.2.2.2.2 (gdV wl_403 wl_400 wl_401 wl_402 wl_2) rfl rfl rfl hd_X3_think ⟨Nat.le_of_ble_eq_true rfl, Nat.le_of_ble_eq_true rfl⟩) 0 rfl rfl _ rg_C rg_n rfl rfl (Nat.le_of_ble_eq_true rfl) ⟨Nat.zero_le _, Nat.zero_le _⟩ dX3_says_38) (wC g b y v2) (rg_put (wC_len.trans wC_len.symm)) (rg_len (wC_len.trans wC_len.symm)) 41 rfl ?_
        refine g_aload_n C dX3_says_41 rfl 42 rfl ?_
        refine g_get (v := .ref (b 22)) C (hiC hiA_3) 0 rfl rfl 9 (by decide) (List.mem_cons_of_mem _ wl_28) rfl rfl dX3_says_42 45 rfl ?_
        refine g_iload_n C dX3_says_45 rfl 46 rfl ?_
        refine g_iload_n C dX3_says_46 rfl 47 rfl ?_
        refine g_callIR C (rn_VN C (k_X0_offTenths l g (b 22) (v2.1 34 0) (v2.1 34 1) (v2.1 34 2) (v2.1 34 3) p0 p1) ⟨va_cnB 2 C.1.2.2.2.2 (gdA wl_420) rfl rfl rfl (nst C (List.mem_of_getElem? (i := 16) rfl)) (C.1.2.2.2.2 _ (List.mem_cons_of_mem _ wl_27)) hd_X0_offTenths.2 ⟨Nat.le_of_ble_eq_true rfl, Nat.le_of_ble_eq_true rfl⟩, C.1.2.2.2.2 _ (List.mem_cons_of_mem _ wl_418), C.1.2.2.2.2 _ (List.mem_cons_of_mem _ wl_419)⟩ 37 rfl rfl [37] rfl rfl rfl rfl (Nat.le_of_ble_eq_true rfl) ⟨Nat.zero_le _, Nat.zero_le _⟩ dX3_says_47) 50 rfl ?_
        obtain rfl := Option.some.inj hR
        exact g_iret C hr hlocks hA (by first | (dsimp only; done) | rfl) (by first | (dsimp only; done) | rfl) dX3_says_50
      · refine g_aload_n C dX3_says_31 rfl 32 rfl ?_
        refine g_iload_n C dX3_says_32 rfl 33 rfl ?_
        refine g_callI C (rn_V C (k_X3_refuse l g b y S (f_X3_refusalInHand S false true)) (cwV 1 C.1.2.2.2.2 (gdV wl_99 wl_96 wl_97 wl_98 wl_2) rfl rfl rfl hd_X3_refuse ⟨Nat.le_of_ble_eq_true rfl, Nat.le_of_ble_eq_true rfl⟩) 0 rfl rfl _ rg_C rg_n rfl rfl (Nat.le_of_ble_eq_true rfl) ⟨Nat.zero_le _, Nat.zero_le _⟩ dX3_says_33) (wC g b y ((f_X3_refuse S (f_X3_refusalInHand S false true)).2)) (rg_put (wC_len.trans wC_len.symm)) (rg_len (wC_len.trans wC_len.symm)) 36 rfl ?_
        obtain rfl := Option.some.inj hR
        exact g_iret C hr hlocks hA (by first | (dsimp only; done) | rfl) (by first | (dsimp only; done) | rfl) dX3_says_36
    · refine g_iconst C dX3_says_17 1 ic_1 18 rfl ?_
      refine g_goto C dX3_says_18 22 (by decide) ?_
      refine g_iconst C dX3_says_22 1 ic_1 23 rfl ?_
      refine g_callIR C (rn_V C (k_X3_refusalInHand l g b y S true true) (cwV 2 C.1.2.2.2.2 (gdV wl_353 wl_350 wl_351 wl_352 wl_2) rfl rfl rfl hd_X3_refusalInHand ⟨Nat.le_of_ble_eq_true rfl, Nat.le_of_ble_eq_true rfl⟩) 0 rfl rfl _ rg_C rg_n rfl rfl (Nat.le_of_ble_eq_true rfl) ⟨Nat.zero_le _, Nat.zero_le _⟩ dX3_says_23) 26 rfl ?_
      refine g_istore_n C dX3_says_26 [_, _, _, _] (Nat.le_of_ble_eq_true rfl) rfl rfl 27 rfl ?_
      refine g_iload_n C dX3_says_27 rfl 28 rfl ?_
      refine g_if_eq C dX3_says_28 hR 37 31 (by decide) rfl (fun c_28 hR => ?_) (fun c_28 hR => ?_)
      · refine g_aload_n C dX3_says_37 rfl 38 rfl ?_
        obtain ⟨v3, hv3, hR⟩ := opt_b hR
        refine g_callV C (rn_V C (k_X3_think l g b y S N_ v3 hv3) (cwV 0 C.1.2.2.2.2 (gdV wl_403 wl_400 wl_401 wl_402 wl_2) rfl rfl rfl hd_X3_think ⟨Nat.le_of_ble_eq_true rfl, Nat.le_of_ble_eq_true rfl⟩) 0 rfl rfl _ rg_C rg_n rfl rfl (Nat.le_of_ble_eq_true rfl) ⟨Nat.zero_le _, Nat.zero_le _⟩ dX3_says_38) (wC g b y v3) (rg_put (wC_len.trans wC_len.symm)) (rg_len (wC_len.trans wC_len.symm)) 41 rfl ?_
        refine g_aload_n C dX3_says_41 rfl 42 rfl ?_
        refine g_get (v := .ref (b 22)) C (hiC hiA_3) 0 rfl rfl 9 (by decide) (List.mem_cons_of_mem _ wl_28) rfl rfl dX3_says_42 45 rfl ?_
        refine g_iload_n C dX3_says_45 rfl 46 rfl ?_
        refine g_iload_n C dX3_says_46 rfl 47 rfl ?_
        refine g_callIR C (rn_VN C (k_X0_offTenths l g (b 22) (v3.1 34 0) (v3.1 34 1) (v3.1 34 2) (v3.1 34 3) p0 p1) ⟨va_cnB 2 C.1.2.2.2.2 (gdA wl_420) rfl rfl rfl (nst C (List.mem_of_getElem? (i := 16) rfl)) (C.1.2.2.2.2 _ (List.mem_cons_of_mem _ wl_27)) hd_X0_offTenths.2 ⟨Nat.le_of_ble_eq_true rfl, Nat.le_of_ble_eq_true rfl⟩, C.1.2.2.2.2 _ (List.mem_cons_of_mem _ wl_418), C.1.2.2.2.2 _ (List.mem_cons_of_mem _ wl_419)⟩ 37 rfl rfl [37] rfl rfl rfl rfl (Nat.le_of_ble_eq_true rfl) ⟨Nat.zero_le _, Nat.zero_le _⟩ dX3_says_47) 50 rfl ?_
        obtain rfl := Option.some.inj hR
        exact g_iret C hr hlocks hA (by first | (dsimp only; done) | rfl) (by first | (dsimp only; done) | rfl) dX3_says_50
      · refine g_aload_n C dX3_says_31 rfl 32 rfl ?_
        refine g_iload_n C dX3_says_32 rfl 33 rfl ?_
        refine g_callI C (rn_V C (k_X3_refuse l g b y S (f_X3_refusalInHand S true true)) (cwV 1 C.1.2.2.2.2 (gdV wl_99 wl_96 wl_97 wl_98 wl_2) rfl rfl rfl hd_X3_refuse ⟨Nat.le_of_ble_eq_true rfl, Nat.le_of_ble_eq_true rfl⟩) 0 rfl rfl _ rg_C rg_n rfl rfl (Nat.le_of_ble_eq_true rfl) ⟨Nat.zero_le _, Nat.zero_le _⟩ dX3_says_33) (wC g b y ((f_X3_refuse S (f_X3_refusalInHand S true true)).2)) (rg_put (wC_len.trans wC_len.symm)) (rg_len (wC_len.trans wC_len.symm)) 36 rfl ?_
        obtain rfl := Option.some.inj hR
        exact g_iret C hr hlocks hA (by first | (dsimp only; done) | rfl) (by first | (dsimp only; done) | rfl) dX3_says_36
theorem hd_X3_thought : yX3_thought.cls = RX3 ∧ yX3_thought.cls ≠ "java/lang/invoke/MethodHandle" ∧ yX3_thought.cls ≠ "java/lang/invoke/VarHandle" ∧ (parseMethodDescriptor yX3_thought.desc).map (fun d => d.parameters.length) = some 1 := by decide +kernel
def f_X3_thought (S : (Nat → Nat → Int32) × (Nat → Nat → Int64)) (p0 : Int32) (N_ : Nat) : Option (Int64 × ((Nat → Nat → Int32) × (Nat → Nat → Int64))) :=
  if (f_X3_refusalInHand S (f_X3_isOneOf p0 5) true) = 0 then
    (f_X3_think S N_).bind fun v1 =>
    (f_X2_sumOf (v1.2 0) p0 p0 N_).bind fun v2 =>
    some (v2, v1)
  else
    some ((f_X3_refuseLong S (f_X3_refusalInHand S (f_X3_isOneOf p0 5) true)).1, (f_X3_refuseLong S (f_X3_refusalInHand S (f_X3_isOneOf p0 5) true)).2)
set_option maxRecDepth 100000 in
set_option maxHeartbeats 4000000 in
theorem k_X3_thought (l : Launch) (g : gE) (b : Nat → Nat) (y : Nat → Nat → Nat) (S : (Nat → Nat → Int32) × (Nat → Nat → Int64)) (p0 : Int32) (N_ : Nat) (R_ : Int64 × ((Nat → Nat → Int32) × (Nat → Nat → Int64))) (hR : f_X3_thought S p0 N_ = some R_) : FnL l g yX3_thought wA_X3_thought { frames := 5, cells := 0, slots := 0, locals := 107 } [.ref (b 0), .int p0] (wC g b y S) R_.1 (wC g b y R_.2) := by
  refine fEntry (As := [.ref (b 0), .int p0]) (maxL := 3) (ret := (some .long)) (by decide) rfl [some (.ref (b 0)), some (.int p0), none] (Nat.le_of_ble_eq_true rfl) (lvInB.to (lvInB.sm (lvInB.sm (lvInB.nn lvInB.nil)))) ?_
  intro p e s m below meth c A C hr hlocks hname hA
  have C : Cx p s m _ c g A cX3_thought 3 wA_X3_thought RX3 := C
  rw [f_X3_thought] at hR
  refine g_aload_n C dX3_thought_0 rfl 1 rfl ?_
  refine g_iload_n C dX3_thought_1 rfl 2 rfl ?_
  refine g_iconst C dX3_thought_2 5 ic_5 3 rfl ?_
  refine g_callIR C (rn_S C (k_X3_isOneOf l g p0 5) (va_cwS 2 C.1.2.2.2.2 (gdS wl_95 wl_93 wl_94 wl_2) rfl rfl rfl hd_X3_isOneOf.2 ⟨Nat.le_of_ble_eq_true rfl, Nat.le_of_ble_eq_true rfl⟩) [] rfl rfl rfl rfl (Nat.le_of_ble_eq_true rfl) ⟨Nat.zero_le _, Nat.zero_le _⟩ dX3_thought_3) 6 rfl ?_
  refine g_iconst C dX3_thought_6 1 ic_1 7 rfl ?_
  refine g_callIR C (rn_V C (k_X3_refusalInHand l g b y S (f_X3_isOneOf p0 5) true) (cwV 2 C.1.2.2.2.2 (gdV wl_353 wl_350 wl_351 wl_352 wl_2) rfl rfl rfl hd_X3_refusalInHand ⟨Nat.le_of_ble_eq_true rfl, Nat.le_of_ble_eq_true rfl⟩) 0 rfl rfl _ rg_C rg_n rfl rfl (Nat.le_of_ble_eq_true rfl) ⟨Nat.zero_le _, Nat.zero_le _⟩ dX3_thought_7) 10 rfl ?_
  refine g_istore_n C dX3_thought_10 [_, _, _] (Nat.le_of_ble_eq_true rfl) rfl rfl 11 rfl ?_
  refine g_iload_n C dX3_thought_11 rfl 12 rfl ?_
  refine g_if_eq C dX3_thought_12 hR 21 15 (by decide) rfl (fun c_12 hR => ?_) (fun c_12 hR => ?_)
  · refine g_aload_n C dX3_thought_21 rfl 22 rfl ?_
    obtain ⟨v1, hv1, hR⟩ := opt_b hR
    refine g_callV C (rn_V C (k_X3_think l g b y S N_ v1 hv1) (cwV 0 C.1.2.2.2.2 (gdV wl_403 wl_400 wl_401 wl_402 wl_2) rfl rfl rfl hd_X3_think ⟨Nat.le_of_ble_eq_true rfl, Nat.le_of_ble_eq_true rfl⟩) 0 rfl rfl _ rg_C rg_n rfl rfl (Nat.le_of_ble_eq_true rfl) ⟨Nat.zero_le _, Nat.zero_le _⟩ dX3_thought_22) (wC g b y v1) (rg_put (wC_len.trans wC_len.symm)) (rg_len (wC_len.trans wC_len.symm)) 25 rfl ?_
    refine g_aload_n C dX3_thought_25 rfl 26 rfl ?_
    refine g_get (v := .ref (b 24)) C (hiC hiA_3) 0 rfl rfl 11 (by decide) (List.mem_cons_of_mem _ wl_33) rfl rfl dX3_thought_26 29 rfl ?_
    refine g_iload_n C dX3_thought_29 rfl 30 rfl ?_
    refine g_iload_n C dX3_thought_30 rfl 31 rfl ?_
    obtain ⟨v2, hv2, hR⟩ := opt_b hR
    refine g_callLR C (rn_VN C (k_X2_sumOf l g (b 24) (b 27) (v1.2 0) p0 p0 N_ v2 hv2) ⟨va_cnB 2 C.1.2.2.2.2 (gdA wl_427) rfl rfl rfl (nst C (List.mem_of_getElem? (i := 17) rfl)) (C.1.2.2.2.2 _ (List.mem_cons_of_mem _ wl_32)) hd_X2_sumOf.2 ⟨Nat.le_of_ble_eq_true rfl, Nat.le_of_ble_eq_true rfl⟩, C.1.2.2.2.2 _ (List.mem_cons_of_mem _ wl_425), C.1.2.2.2.2 _ (List.mem_cons_of_mem _ wl_426)⟩ 39 rfl rfl [39, 42] rfl rfl rfl rfl (Nat.le_of_ble_eq_true rfl) ⟨Nat.zero_le _, Nat.zero_le _⟩ dX3_thought_31) 34 rfl ?_
    obtain rfl := Option.some.inj hR
    exact g_lret C hr hlocks hA (by first | (dsimp only; done) | rfl) (by first | (dsimp only; done) | rfl) dX3_thought_34
  · refine g_aload_n C dX3_thought_15 rfl 16 rfl ?_
    refine g_iload_n C dX3_thought_16 rfl 17 rfl ?_
    refine g_callL C (rn_V C (k_X3_refuseLong l g b y S (f_X3_refusalInHand S (f_X3_isOneOf p0 5) true)) (cwV 1 C.1.2.2.2.2 (gdV wl_453 wl_450 wl_451 wl_452 wl_2) rfl rfl rfl hd_X3_refuseLong ⟨Nat.le_of_ble_eq_true rfl, Nat.le_of_ble_eq_true rfl⟩) 0 rfl rfl _ rg_C rg_n rfl rfl (Nat.le_of_ble_eq_true rfl) ⟨Nat.zero_le _, Nat.zero_le _⟩ dX3_thought_17) (wC g b y ((f_X3_refuseLong S (f_X3_refusalInHand S (f_X3_isOneOf p0 5) true)).2)) (rg_put (wC_len.trans wC_len.symm)) (rg_len (wC_len.trans wC_len.symm)) 20 rfl ?_
    obtain rfl := Option.some.inj hR
    exact g_lret C hr hlocks hA (by first | (dsimp only; done) | rfl) (by first | (dsimp only; done) | rfl) dX3_thought_20
theorem hd_X3_likely : yX3_likely.cls = RX3 ∧ yX3_likely.cls ≠ "java/lang/invoke/MethodHandle" ∧ yX3_likely.cls ≠ "java/lang/invoke/VarHandle" ∧ (parseMethodDescriptor yX3_likely.desc).map (fun d => d.parameters.length) = some 2 := by decide +kernel
def f_X3_likely (S : (Nat → Nat → Int32) × (Nat → Nat → Int64)) (p0 : Int32) (p1 : Int32) (N_ : Nat) : Option (Int64 × ((Nat → Nat → Int32) × (Nat → Nat → Int64))) :=
  if (f_X3_refusalInHand S (f_X3_isOneOf p0 5) (f_X3_isOneOf p1 2)) = 0 then
    (f_X3_think S N_).bind fun v1 =>
    (f_X2_sumOf (v1.2 0) p0 p0 N_).bind fun v2 =>
    (f_X2_sumOfAll (v1.2 0) N_).bind fun v3 =>
    (f_X3_inLeastTerms v2 v3 p1 N_).bind fun v4 =>
    some (v4, v1)
  else
    some ((f_X3_refuseLong S (f_X3_refusalInHand S (f_X3_isOneOf p0 5) (f_X3_isOneOf p1 2))).1, (f_X3_refuseLong S (f_X3_refusalInHand S (f_X3_isOneOf p0 5) (f_X3_isOneOf p1 2))).2)
set_option maxRecDepth 100000 in
set_option maxHeartbeats 4000000 in
theorem k_X3_likely (l : Launch) (g : gE) (b : Nat → Nat) (y : Nat → Nat → Nat) (S : (Nat → Nat → Int32) × (Nat → Nat → Int64)) (p0 : Int32) (p1 : Int32) (N_ : Nat) (R_ : Int64 × ((Nat → Nat → Int32) × (Nat → Nat → Int64))) (hR : f_X3_likely S p0 p1 N_ = some R_) : FnL l g yX3_likely wA_X3_likely { frames := 5, cells := 0, slots := 0, locals := 107 } [.ref (b 0), .int p0, .int p1] (wC g b y S) R_.1 (wC g b y R_.2) := by
  refine fEntry (As := [.ref (b 0), .int p0, .int p1]) (maxL := 4) (ret := (some .long)) (by decide) rfl [some (.ref (b 0)), some (.int p0), some (.int p1), none] (Nat.le_of_ble_eq_true rfl) (lvInB.to (lvInB.sm (lvInB.sm (lvInB.sm (lvInB.nn lvInB.nil))))) ?_
  intro p e s m below meth c A C hr hlocks hname hA
  have C : Cx p s m _ c g A cX3_likely 4 wA_X3_likely RX3 := C
  rw [f_X3_likely] at hR
  refine g_aload_n C dX3_likely_0 rfl 1 rfl ?_
  refine g_iload_n C dX3_likely_1 rfl 2 rfl ?_
  refine g_iconst C dX3_likely_2 5 ic_5 3 rfl ?_
  refine g_callIR C (rn_S C (k_X3_isOneOf l g p0 5) (va_cwS 2 C.1.2.2.2.2 (gdS wl_95 wl_93 wl_94 wl_2) rfl rfl rfl hd_X3_isOneOf.2 ⟨Nat.le_of_ble_eq_true rfl, Nat.le_of_ble_eq_true rfl⟩) [] rfl rfl rfl rfl (Nat.le_of_ble_eq_true rfl) ⟨Nat.zero_le _, Nat.zero_le _⟩ dX3_likely_3) 6 rfl ?_
  refine g_iload_n C dX3_likely_6 rfl 7 rfl ?_
  refine g_iconst C dX3_likely_7 2 ic_2 8 rfl ?_
  refine g_callIR C (rn_S C (k_X3_isOneOf l g p1 2) (va_cwS 2 C.1.2.2.2.2 (gdS wl_95 wl_93 wl_94 wl_2) rfl rfl rfl hd_X3_isOneOf.2 ⟨Nat.le_of_ble_eq_true rfl, Nat.le_of_ble_eq_true rfl⟩) [] rfl rfl rfl rfl (Nat.le_of_ble_eq_true rfl) ⟨Nat.zero_le _, Nat.zero_le _⟩ dX3_likely_8) 11 rfl ?_
  refine g_callIR C (rn_V C (k_X3_refusalInHand l g b y S (f_X3_isOneOf p0 5) (f_X3_isOneOf p1 2)) (cwV 2 C.1.2.2.2.2 (gdV wl_353 wl_350 wl_351 wl_352 wl_2) rfl rfl rfl hd_X3_refusalInHand ⟨Nat.le_of_ble_eq_true rfl, Nat.le_of_ble_eq_true rfl⟩) 0 rfl rfl _ rg_C rg_n rfl rfl (Nat.le_of_ble_eq_true rfl) ⟨Nat.zero_le _, Nat.zero_le _⟩ dX3_likely_11) 14 rfl ?_
  refine g_istore_n C dX3_likely_14 [_, _, _, _] (Nat.le_of_ble_eq_true rfl) rfl rfl 15 rfl ?_
  refine g_iload_n C dX3_likely_15 rfl 16 rfl ?_
  refine g_if_eq C dX3_likely_16 hR 25 19 (by decide) rfl (fun c_16 hR => ?_) (fun c_16 hR => ?_)
  · refine g_aload_n C dX3_likely_25 rfl 26 rfl ?_
    obtain ⟨v1, hv1, hR⟩ := opt_b hR
    refine g_callV C (rn_V C (k_X3_think l g b y S N_ v1 hv1) (cwV 0 C.1.2.2.2.2 (gdV wl_403 wl_400 wl_401 wl_402 wl_2) rfl rfl rfl hd_X3_think ⟨Nat.le_of_ble_eq_true rfl, Nat.le_of_ble_eq_true rfl⟩) 0 rfl rfl _ rg_C rg_n rfl rfl (Nat.le_of_ble_eq_true rfl) ⟨Nat.zero_le _, Nat.zero_le _⟩ dX3_likely_26) (wC g b y v1) (rg_put (wC_len.trans wC_len.symm)) (rg_len (wC_len.trans wC_len.symm)) 29 rfl ?_
    refine g_aload_n C dX3_likely_29 rfl 30 rfl ?_
    refine g_get (v := .ref (b 24)) C (hiC hiA_3) 0 rfl rfl 11 (by decide) (List.mem_cons_of_mem _ wl_33) rfl rfl dX3_likely_30 33 rfl ?_
    refine g_iload_n C dX3_likely_33 rfl 34 rfl ?_
    refine g_iload_n C dX3_likely_34 rfl 35 rfl ?_
    obtain ⟨v2, hv2, hR⟩ := opt_b hR
    refine g_callLR C (rn_VN C (k_X2_sumOf l g (b 24) (b 27) (v1.2 0) p0 p0 N_ v2 hv2) ⟨va_cnB 2 C.1.2.2.2.2 (gdA wl_427) rfl rfl rfl (nst C (List.mem_of_getElem? (i := 17) rfl)) (C.1.2.2.2.2 _ (List.mem_cons_of_mem _ wl_32)) hd_X2_sumOf.2 ⟨Nat.le_of_ble_eq_true rfl, Nat.le_of_ble_eq_true rfl⟩, C.1.2.2.2.2 _ (List.mem_cons_of_mem _ wl_425), C.1.2.2.2.2 _ (List.mem_cons_of_mem _ wl_426)⟩ 39 rfl rfl [39, 42] rfl rfl rfl rfl (Nat.le_of_ble_eq_true rfl) ⟨Nat.zero_le _, Nat.zero_le _⟩ dX3_likely_35) 38 rfl ?_
    refine g_aload_n C dX3_likely_38 rfl 39 rfl ?_
    refine g_get (v := .ref (b 24)) C (hiC hiA_3) 0 rfl rfl 11 (by decide) (List.mem_cons_of_mem _ wl_33) rfl rfl dX3_likely_39 42 rfl ?_
    obtain ⟨v3, hv3, hR⟩ := opt_b hR
    refine g_callLR C (rn_VN C (k_X2_sumOfAll l g (b 24) (b 27) (v1.2 0) N_ v3 hv3) ⟨va_cnB 0 C.1.2.2.2.2 (gdA wl_478) rfl rfl rfl (nst C (List.mem_of_getElem? (i := 18) rfl)) (C.1.2.2.2.2 _ (List.mem_cons_of_mem _ wl_32)) hd_X2_sumOfAll.2 ⟨Nat.le_of_ble_eq_true rfl, Nat.le_of_ble_eq_true rfl⟩, C.1.2.2.2.2 _ (List.mem_cons_of_mem _ wl_476), C.1.2.2.2.2 _ (List.mem_cons_of_mem _ wl_477)⟩ 39 rfl rfl [39, 42] rfl rfl rfl rfl (Nat.le_of_ble_eq_true rfl) ⟨Nat.zero_le _, Nat.zero_le _⟩ dX3_likely_42) 45 rfl ?_
    refine g_iload_n C dX3_likely_45 rfl 46 rfl ?_
    obtain ⟨v4, hv4, hR⟩ := opt_b hR
    refine g_callLR C (rn_S C (k_X3_inLeastTerms l g v2 v3 p1 N_ v4 hv4) (va_cwS 3 C.1.2.2.2.2 (gdS wl_481 wl_479 wl_480 wl_2) rfl rfl rfl hd_X3_inLeastTerms.2 ⟨Nat.le_of_ble_eq_true rfl, Nat.le_of_ble_eq_true rfl⟩) [] rfl rfl rfl rfl (Nat.le_of_ble_eq_true rfl) ⟨Nat.zero_le _, Nat.zero_le _⟩ dX3_likely_46) 49 rfl ?_
    obtain rfl := Option.some.inj hR
    exact g_lret C hr hlocks hA (by first | (dsimp only; done) | rfl) (by first | (dsimp only; done) | rfl) dX3_likely_49
  · refine g_aload_n C dX3_likely_19 rfl 20 rfl ?_
    refine g_iload_n C dX3_likely_20 rfl 21 rfl ?_
    refine g_callL C (rn_V C (k_X3_refuseLong l g b y S (f_X3_refusalInHand S (f_X3_isOneOf p0 5) (f_X3_isOneOf p1 2))) (cwV 1 C.1.2.2.2.2 (gdV wl_453 wl_450 wl_451 wl_452 wl_2) rfl rfl rfl hd_X3_refuseLong ⟨Nat.le_of_ble_eq_true rfl, Nat.le_of_ble_eq_true rfl⟩) 0 rfl rfl _ rg_C rg_n rfl rfl (Nat.le_of_ble_eq_true rfl) ⟨Nat.zero_le _, Nat.zero_le _⟩ dX3_likely_21) (wC g b y ((f_X3_refuseLong S (f_X3_refusalInHand S (f_X3_isOneOf p0 5) (f_X3_isOneOf p1 2))).2)) (rg_put (wC_len.trans wC_len.symm)) (rg_len (wC_len.trans wC_len.symm)) 24 rfl ?_
    obtain rfl := Option.some.inj hR
    exact g_lret C hr hlocks hA (by first | (dsimp only; done) | rfl) (by first | (dsimp only; done) | rfl) dX3_likely_24
theorem hd_X3_good : yX3_good.cls = RX3 ∧ yX3_good.cls ≠ "java/lang/invoke/MethodHandle" ∧ yX3_good.cls ≠ "java/lang/invoke/VarHandle" ∧ (parseMethodDescriptor yX3_good.desc).map (fun d => d.parameters.length) = some 1 := by decide +kernel
def f_X3_good (S : (Nat → Nat → Int32) × (Nat → Nat → Int64)) (p0 : Int32) (N_ : Nat) : Option (Int64 × ((Nat → Nat → Int32) × (Nat → Nat → Int64))) :=
  if (f_X3_refusalInHand S true (f_X3_isOneOf p0 2)) = 0 then
    (f_X3_think S N_).bind fun v1 =>
    (f_X2_sumOf (v1.2 0) 0 1 N_).bind fun v2 =>
    (f_X2_sumOfAll (v1.2 0) N_).bind fun v3 =>
    (f_X3_inLeastTerms v2 v3 p0 N_).bind fun v4 =>
    some (v4, v1)
  else
    some ((f_X3_refuseLong S (f_X3_refusalInHand S true (f_X3_isOneOf p0 2))).1, (f_X3_refuseLong S (f_X3_refusalInHand S true (f_X3_isOneOf p0 2))).2)
set_option maxRecDepth 100000 in
set_option maxHeartbeats 4000000 in
theorem k_X3_good (l : Launch) (g : gE) (b : Nat → Nat) (y : Nat → Nat → Nat) (S : (Nat → Nat → Int32) × (Nat → Nat → Int64)) (p0 : Int32) (N_ : Nat) (R_ : Int64 × ((Nat → Nat → Int32) × (Nat → Nat → Int64))) (hR : f_X3_good S p0 N_ = some R_) : FnL l g yX3_good wA_X3_good { frames := 5, cells := 0, slots := 0, locals := 107 } [.ref (b 0), .int p0] (wC g b y S) R_.1 (wC g b y R_.2) := by
  refine fEntry (As := [.ref (b 0), .int p0]) (maxL := 3) (ret := (some .long)) (by decide) rfl [some (.ref (b 0)), some (.int p0), none] (Nat.le_of_ble_eq_true rfl) (lvInB.to (lvInB.sm (lvInB.sm (lvInB.nn lvInB.nil)))) ?_
  intro p e s m below meth c A C hr hlocks hname hA
  have C : Cx p s m _ c g A cX3_good 3 wA_X3_good RX3 := C
  rw [f_X3_good] at hR
  refine g_aload_n C dX3_good_0 rfl 1 rfl ?_
  refine g_iconst C dX3_good_1 1 ic_1 2 rfl ?_
  refine g_iload_n C dX3_good_2 rfl 3 rfl ?_
  refine g_iconst C dX3_good_3 2 ic_2 4 rfl ?_
  refine g_callIR C (rn_S C (k_X3_isOneOf l g p0 2) (va_cwS 2 C.1.2.2.2.2 (gdS wl_95 wl_93 wl_94 wl_2) rfl rfl rfl hd_X3_isOneOf.2 ⟨Nat.le_of_ble_eq_true rfl, Nat.le_of_ble_eq_true rfl⟩) [] rfl rfl rfl rfl (Nat.le_of_ble_eq_true rfl) ⟨Nat.zero_le _, Nat.zero_le _⟩ dX3_good_4) 7 rfl ?_
  refine g_callIR C (rn_V C (k_X3_refusalInHand l g b y S true (f_X3_isOneOf p0 2)) (cwV 2 C.1.2.2.2.2 (gdV wl_353 wl_350 wl_351 wl_352 wl_2) rfl rfl rfl hd_X3_refusalInHand ⟨Nat.le_of_ble_eq_true rfl, Nat.le_of_ble_eq_true rfl⟩) 0 rfl rfl _ rg_C rg_n rfl rfl (Nat.le_of_ble_eq_true rfl) ⟨Nat.zero_le _, Nat.zero_le _⟩ dX3_good_7) 10 rfl ?_
  refine g_istore_n C dX3_good_10 [_, _, _] (Nat.le_of_ble_eq_true rfl) rfl rfl 11 rfl ?_
  refine g_iload_n C dX3_good_11 rfl 12 rfl ?_
  refine g_if_eq C dX3_good_12 hR 21 15 (by decide) rfl (fun c_12 hR => ?_) (fun c_12 hR => ?_)
  · refine g_aload_n C dX3_good_21 rfl 22 rfl ?_
    obtain ⟨v1, hv1, hR⟩ := opt_b hR
    refine g_callV C (rn_V C (k_X3_think l g b y S N_ v1 hv1) (cwV 0 C.1.2.2.2.2 (gdV wl_403 wl_400 wl_401 wl_402 wl_2) rfl rfl rfl hd_X3_think ⟨Nat.le_of_ble_eq_true rfl, Nat.le_of_ble_eq_true rfl⟩) 0 rfl rfl _ rg_C rg_n rfl rfl (Nat.le_of_ble_eq_true rfl) ⟨Nat.zero_le _, Nat.zero_le _⟩ dX3_good_22) (wC g b y v1) (rg_put (wC_len.trans wC_len.symm)) (rg_len (wC_len.trans wC_len.symm)) 25 rfl ?_
    refine g_aload_n C dX3_good_25 rfl 26 rfl ?_
    refine g_get (v := .ref (b 24)) C (hiC hiA_3) 0 rfl rfl 11 (by decide) (List.mem_cons_of_mem _ wl_33) rfl rfl dX3_good_26 29 rfl ?_
    refine g_iconst C dX3_good_29 0 ic_0 30 rfl ?_
    refine g_iconst C dX3_good_30 1 ic_1 31 rfl ?_
    obtain ⟨v2, hv2, hR⟩ := opt_b hR
    refine g_callLR C (rn_VN C (k_X2_sumOf l g (b 24) (b 27) (v1.2 0) 0 1 N_ v2 hv2) ⟨va_cnB 2 C.1.2.2.2.2 (gdA wl_427) rfl rfl rfl (nst C (List.mem_of_getElem? (i := 17) rfl)) (C.1.2.2.2.2 _ (List.mem_cons_of_mem _ wl_32)) hd_X2_sumOf.2 ⟨Nat.le_of_ble_eq_true rfl, Nat.le_of_ble_eq_true rfl⟩, C.1.2.2.2.2 _ (List.mem_cons_of_mem _ wl_425), C.1.2.2.2.2 _ (List.mem_cons_of_mem _ wl_426)⟩ 39 rfl rfl [39, 42] rfl rfl rfl rfl (Nat.le_of_ble_eq_true rfl) ⟨Nat.zero_le _, Nat.zero_le _⟩ dX3_good_31) 34 rfl ?_
    refine g_aload_n C dX3_good_34 rfl 35 rfl ?_
    refine g_get (v := .ref (b 24)) C (hiC hiA_3) 0 rfl rfl 11 (by decide) (List.mem_cons_of_mem _ wl_33) rfl rfl dX3_good_35 38 rfl ?_
    obtain ⟨v3, hv3, hR⟩ := opt_b hR
    refine g_callLR C (rn_VN C (k_X2_sumOfAll l g (b 24) (b 27) (v1.2 0) N_ v3 hv3) ⟨va_cnB 0 C.1.2.2.2.2 (gdA wl_478) rfl rfl rfl (nst C (List.mem_of_getElem? (i := 18) rfl)) (C.1.2.2.2.2 _ (List.mem_cons_of_mem _ wl_32)) hd_X2_sumOfAll.2 ⟨Nat.le_of_ble_eq_true rfl, Nat.le_of_ble_eq_true rfl⟩, C.1.2.2.2.2 _ (List.mem_cons_of_mem _ wl_476), C.1.2.2.2.2 _ (List.mem_cons_of_mem _ wl_477)⟩ 39 rfl rfl [39, 42] rfl rfl rfl rfl (Nat.le_of_ble_eq_true rfl) ⟨Nat.zero_le _, Nat.zero_le _⟩ dX3_good_38) 41 rfl ?_
    refine g_iload_n C dX3_good_41 rfl 42 rfl ?_
    obtain ⟨v4, hv4, hR⟩ := opt_b hR
    refine g_callLR C (rn_S C (k_X3_inLeastTerms l g v2 v3 p0 N_ v4 hv4) (va_cwS 3 C.1.2.2.2.2 (gdS wl_481 wl_479 wl_480 wl_2) rfl rfl rfl hd_X3_inLeastTerms.2 ⟨Nat.le_of_ble_eq_true rfl, Nat.le_of_ble_eq_true rfl⟩) [] rfl rfl rfl rfl (Nat.le_of_ble_eq_true rfl) ⟨Nat.zero_le _, Nat.zero_le _⟩ dX3_good_42) 45 rfl ?_
    obtain rfl := Option.some.inj hR
    exact g_lret C hr hlocks hA (by first | (dsimp only; done) | rfl) (by first | (dsimp only; done) | rfl) dX3_good_45
  · refine g_aload_n C dX3_good_15 rfl 16 rfl ?_
    refine g_iload_n C dX3_good_16 rfl 17 rfl ?_
    refine g_callL C (rn_V C (k_X3_refuseLong l g b y S (f_X3_refusalInHand S true (f_X3_isOneOf p0 2))) (cwV 1 C.1.2.2.2.2 (gdV wl_453 wl_450 wl_451 wl_452 wl_2) rfl rfl rfl hd_X3_refuseLong ⟨Nat.le_of_ble_eq_true rfl, Nat.le_of_ble_eq_true rfl⟩) 0 rfl rfl _ rg_C rg_n rfl rfl (Nat.le_of_ble_eq_true rfl) ⟨Nat.zero_le _, Nat.zero_le _⟩ dX3_good_17) (wC g b y ((f_X3_refuseLong S (f_X3_refusalInHand S true (f_X3_isOneOf p0 2))).2)) (rg_put (wC_len.trans wC_len.symm)) (rg_len (wC_len.trans wC_len.symm)) 20 rfl ?_
    obtain rfl := Option.some.inj hR
    exact g_lret C hr hlocks hA (by first | (dsimp only; done) | rfl) (by first | (dsimp only; done) | rfl) dX3_good_20
theorem hd_X3_mean : yX3_mean.cls = RX3 ∧ yX3_mean.cls ≠ "java/lang/invoke/MethodHandle" ∧ yX3_mean.cls ≠ "java/lang/invoke/VarHandle" ∧ (parseMethodDescriptor yX3_mean.desc).map (fun d => d.parameters.length) = some 3 := by decide +kernel
def f_X3_mean (S : (Nat → Nat → Int32) × (Nat → Nat → Int64)) (p0 : Int32) (p1 : Int32) (p2 : Int32) (N_ : Nat) : Option (Int64 × ((Nat → Nat → Int32) × (Nat → Nat → Int64))) :=
  if (b2i (f_X3_isOneOf p0 5)) = 0 then
    if (f_X3_refusalInHand S false (f_X3_isOneOf p2 2)) = 0 then
      (f_X3_think S N_).bind fun v1 =>
      (f_X1_netSum (v1.1 0 3) (v1.2 0) p0 p1 N_).bind fun v2 =>
      (f_X2_sumOfAll (v1.2 0) N_).bind fun v3 =>
      (f_X3_inLeastTerms ((Int32.toInt64 (v1.1 34 2)) * v2) v3 p2 N_).bind fun v4 =>
      some (v4, v1)
    else
      some ((f_X3_refuseLong S (f_X3_refusalInHand S false (f_X3_isOneOf p2 2))).1, (f_X3_refuseLong S (f_X3_refusalInHand S false (f_X3_isOneOf p2 2))).2)
  else
    if (b2i (f_X3_isOneOf p1 3)) = 0 then
      if (f_X3_refusalInHand S false (f_X3_isOneOf p2 2)) = 0 then
        (f_X3_think S N_).bind fun v5 =>
        (f_X1_netSum (v5.1 0 3) (v5.2 0) p0 p1 N_).bind fun v6 =>
        (f_X2_sumOfAll (v5.2 0) N_).bind fun v7 =>
        (f_X3_inLeastTerms ((Int32.toInt64 (v5.1 34 2)) * v6) v7 p2 N_).bind fun v8 =>
        some (v8, v5)
      else
        some ((f_X3_refuseLong S (f_X3_refusalInHand S false (f_X3_isOneOf p2 2))).1, (f_X3_refuseLong S (f_X3_refusalInHand S false (f_X3_isOneOf p2 2))).2)
    else
      if (f_X3_refusalInHand S true (f_X3_isOneOf p2 2)) = 0 then
        (f_X3_think S N_).bind fun v9 =>
        (f_X1_netSum (v9.1 0 3) (v9.2 0) p0 p1 N_).bind fun v10 =>
        (f_X2_sumOfAll (v9.2 0) N_).bind fun v11 =>
        (f_X3_inLeastTerms ((Int32.toInt64 (v9.1 34 2)) * v10) v11 p2 N_).bind fun v12 =>
        some (v12, v9)
      else
        some ((f_X3_refuseLong S (f_X3_refusalInHand S true (f_X3_isOneOf p2 2))).1, (f_X3_refuseLong S (f_X3_refusalInHand S true (f_X3_isOneOf p2 2))).2)
set_option maxRecDepth 100000 in
set_option maxHeartbeats 4000000 in
theorem k_X3_mean (l : Launch) (g : gE) (b : Nat → Nat) (y : Nat → Nat → Nat) (S : (Nat → Nat → Int32) × (Nat → Nat → Int64)) (p0 : Int32) (p1 : Int32) (p2 : Int32) (N_ : Nat) (R_ : Int64 × ((Nat → Nat → Int32) × (Nat → Nat → Int64))) (hR : f_X3_mean S p0 p1 p2 N_ = some R_) : FnL l g yX3_mean wA_X3_mean { frames := 5, cells := 0, slots := 0, locals := 107 } [.ref (b 0), .int p0, .int p1, .int p2] (wC g b y S) R_.1 (wC g b y R_.2) := by
  refine fEntry (As := [.ref (b 0), .int p0, .int p1, .int p2]) (maxL := 5) (ret := (some .long)) (by decide) rfl [some (.ref (b 0)), some (.int p0), some (.int p1), some (.int p2), none] (Nat.le_of_ble_eq_true rfl) (lvInB.to (lvInB.sm (lvInB.sm (lvInB.sm (lvInB.sm (lvInB.nn lvInB.nil)))))) ?_
  intro p e s m below meth c A C hr hlocks hname hA
  have C : Cx p s m _ c g A cX3_mean 5 wA_X3_mean RX3 := C
  rw [f_X3_mean] at hR
  refine g_aload_n C dX3_mean_0 rfl 1 rfl ?_
  refine g_iload_n C dX3_mean_1 rfl 2 rfl ?_
  refine g_iconst C dX3_mean_2 5 ic_5 3 rfl ?_
  refine g_callIR C (rn_S C (k_X3_isOneOf l g p0 5) (va_cwS 2 C.1.2.2.2.2 (gdS wl_95 wl_93 wl_94 wl_2) rfl rfl rfl hd_X3_isOneOf.2 ⟨Nat.le_of_ble_eq_true rfl, Nat.le_of_ble_eq_true rfl⟩) [] rfl rfl rfl rfl (Nat.le_of_ble_eq_true rfl) ⟨Nat.zero_le _, Nat.zero_le _⟩ dX3_mean_3) 6 rfl ?_
  refine g_if_eq C dX3_mean_6 hR 21 9 (by decide) rfl (fun c_6 hR => ?_) (fun c_6 hR => ?_)
  · refine g_iconst C dX3_mean_21 0 ic_0 22 rfl ?_
    refine g_iload_n C dX3_mean_22 rfl 23 rfl ?_
    refine g_iconst C dX3_mean_23 2 ic_2 24 rfl ?_
    refine g_callIR C (rn_S C (k_X3_isOneOf l g p2 2) (va_cwS 2 C.1.2.2.2.2 (gdS wl_95 wl_93 wl_94 wl_2) rfl rfl rfl hd_X3_isOneOf.2 ⟨Nat.le_of_ble_eq_true rfl, Nat.le_of_ble_eq_true rfl⟩) [] rfl rfl rfl rfl (Nat.le_of_ble_eq_true rfl) ⟨Nat.zero_le _, Nat.zero_le _⟩ dX3_mean_24) 27 rfl ?_
    refine g_callIR C (rn_V C (k_X3_refusalInHand l g b y S false (f_X3_isOneOf p2 2)) (cwV 2 C.1.2.2.2.2 (gdV wl_353 wl_350 wl_351 wl_352 wl_2) rfl rfl rfl hd_X3_refusalInHand ⟨Nat.le_of_ble_eq_true rfl, Nat.le_of_ble_eq_true rfl⟩) 0 rfl rfl _ rg_C rg_n rfl rfl (Nat.le_of_ble_eq_true rfl) ⟨Nat.zero_le _, Nat.zero_le _⟩ dX3_mean_27) 30 rfl ?_
    refine g_istore C dX3_mean_30 [_, _, _, _, _] (Nat.le_of_ble_eq_true rfl) rfl rfl 32 rfl ?_
    refine g_iload C dX3_mean_32 rfl 34 rfl ?_
    refine g_if_eq C dX3_mean_34 hR 44 37 (by decide) rfl (fun c_34 hR => ?_) (fun c_34 hR => ?_)
    · refine g_aload_n C dX3_mean_44 rfl 45 rfl ?_
      obtain ⟨v1, hv1, hR⟩ := opt_b hR
      refine g_callV C (rn_V C (k_X3_think l g b y S N_ v1 hv1) (cwV 0 C.1.2.2.2.2 (gdV wl_403 wl_400 wl_401 wl_402 wl_2) rfl rfl rfl hd_X3_think ⟨Nat.le_of_ble_eq_true rfl, Nat.le_of_ble_eq_true rfl⟩) 0 rfl rfl _ rg_C rg_n rfl rfl (Nat.le_of_ble_eq_true rfl) ⟨Nat.zero_le _, Nat.zero_le _⟩ dX3_mean_45) (wC g b y v1) (rg_put (wC_len.trans wC_len.symm)) (rg_len (wC_len.trans wC_len.symm)) 48 rfl ?_
      refine g_aload_n C dX3_mean_48 rfl 49 rfl ?_
      refine g_get (v := .ref (b 22)) C (hiC hiA_3) 0 rfl rfl 9 (by decide) (List.mem_cons_of_mem _ wl_28) rfl rfl dX3_mean_49 52 rfl ?_
      refine g_getN (v := .int (v1.1 34 2)) C (hiC hiA_0) 37 rfl rfl 2 (by decide) (List.mem_of_getElem? (i := 3) rfl) rfl rfl dX3_mean_52 55 rfl ?_
      refine g_i2l C dX3_mean_55 56 rfl ?_
      refine g_aload_n C dX3_mean_56 rfl 57 rfl ?_
      refine g_get (v := .ref (b 1)) C (hiC hiA_3) 0 rfl rfl 0 (by decide) (List.mem_cons_of_mem _ wl_15) rfl rfl dX3_mean_57 60 rfl ?_
      refine g_iload_n C dX3_mean_60 rfl 61 rfl ?_
      refine g_iload_n C dX3_mean_61 rfl 62 rfl ?_
      refine g_aload_n C dX3_mean_62 rfl 63 rfl ?_
      refine g_get (v := .ref (b 24)) C (hiC hiA_3) 0 rfl rfl 11 (by decide) (List.mem_cons_of_mem _ wl_33) rfl rfl dX3_mean_63 66 rfl ?_
      obtain ⟨v2, hv2, hR⟩ := opt_b hR
      refine g_callLR C (rn_VN C (k_X1_netSum l g (b 1) (b 2) (b 3) (b 4) (b 5) (b 6) (b 24) (b 27) (v1.1 0 0) (v1.1 0 1) (v1.1 0 2) (v1.1 0 3) (v1.1 0 4) (v1.2 0) p0 p1 N_ v2 hv2) ⟨va_cnB 3 C.1.2.2.2.2 (gdA wl_513) rfl rfl rfl (nst C (List.mem_of_getElem? (i := 19) rfl)) (C.1.2.2.2.2 _ (List.mem_cons_of_mem _ wl_14)) hd_X1_netSum.2 ⟨Nat.le_of_ble_eq_true rfl, Nat.le_of_ble_eq_true rfl⟩, C.1.2.2.2.2 _ (List.mem_cons_of_mem _ wl_511), C.1.2.2.2.2 _ (List.mem_cons_of_mem _ wl_512)⟩ 1 rfl rfl [1, 39, 42] rfl rfl rfl rfl (Nat.le_of_ble_eq_true rfl) ⟨Nat.zero_le _, Nat.zero_le _⟩ dX3_mean_66) 69 rfl ?_
      refine g_lmul C dX3_mean_69 70 rfl ?_
      refine g_aload_n C dX3_mean_70 rfl 71 rfl ?_
      refine g_get (v := .ref (b 24)) C (hiC hiA_3) 0 rfl rfl 11 (by decide) (List.mem_cons_of_mem _ wl_33) rfl rfl dX3_mean_71 74 rfl ?_
      obtain ⟨v3, hv3, hR⟩ := opt_b hR
      refine g_callLR C (rn_VN C (k_X2_sumOfAll l g (b 24) (b 27) (v1.2 0) N_ v3 hv3) ⟨va_cnB 0 C.1.2.2.2.2 (gdA wl_478) rfl rfl rfl (nst C (List.mem_of_getElem? (i := 18) rfl)) (C.1.2.2.2.2 _ (List.mem_cons_of_mem _ wl_32)) hd_X2_sumOfAll.2 ⟨Nat.le_of_ble_eq_true rfl, Nat.le_of_ble_eq_true rfl⟩, C.1.2.2.2.2 _ (List.mem_cons_of_mem _ wl_476), C.1.2.2.2.2 _ (List.mem_cons_of_mem _ wl_477)⟩ 39 rfl rfl [39, 42] rfl rfl rfl rfl (Nat.le_of_ble_eq_true rfl) ⟨Nat.zero_le _, Nat.zero_le _⟩ dX3_mean_74) 77 rfl ?_
      refine g_iload_n C dX3_mean_77 rfl 78 rfl ?_
      obtain ⟨v4, hv4, hR⟩ := opt_b hR
      refine g_callLR C (rn_S C (k_X3_inLeastTerms l g ((Int32.toInt64 (v1.1 34 2)) * v2) v3 p2 N_ v4 hv4) (va_cwS 3 C.1.2.2.2.2 (gdS wl_481 wl_479 wl_480 wl_2) rfl rfl rfl hd_X3_inLeastTerms.2 ⟨Nat.le_of_ble_eq_true rfl, Nat.le_of_ble_eq_true rfl⟩) [] rfl rfl rfl rfl (Nat.le_of_ble_eq_true rfl) ⟨Nat.zero_le _, Nat.zero_le _⟩ dX3_mean_78) 81 rfl ?_
      obtain rfl := Option.some.inj hR
      exact g_lret C hr hlocks hA (by first | (dsimp only; done) | rfl) (by first | (dsimp only; done) | rfl) dX3_mean_81
    · refine g_aload_n C dX3_mean_37 rfl 38 rfl ?_
      refine g_iload C dX3_mean_38 rfl 40 rfl ?_
      refine g_callL C (rn_V C (k_X3_refuseLong l g b y S (f_X3_refusalInHand S false (f_X3_isOneOf p2 2))) (cwV 1 C.1.2.2.2.2 (gdV wl_453 wl_450 wl_451 wl_452 wl_2) rfl rfl rfl hd_X3_refuseLong ⟨Nat.le_of_ble_eq_true rfl, Nat.le_of_ble_eq_true rfl⟩) 0 rfl rfl _ rg_C rg_n rfl rfl (Nat.le_of_ble_eq_true rfl) ⟨Nat.zero_le _, Nat.zero_le _⟩ dX3_mean_40) (wC g b y ((f_X3_refuseLong S (f_X3_refusalInHand S false (f_X3_isOneOf p2 2))).2)) (rg_put (wC_len.trans wC_len.symm)) (rg_len (wC_len.trans wC_len.symm)) 43 rfl ?_
      obtain rfl := Option.some.inj hR
      exact g_lret C hr hlocks hA (by first | (dsimp only; done) | rfl) (by first | (dsimp only; done) | rfl) dX3_mean_43
  · refine g_iload_n C dX3_mean_9 rfl 10 rfl ?_
    refine g_iconst C dX3_mean_10 3 ic_3 11 rfl ?_
    refine g_callIR C (rn_S C (k_X3_isOneOf l g p1 3) (va_cwS 2 C.1.2.2.2.2 (gdS wl_95 wl_93 wl_94 wl_2) rfl rfl rfl hd_X3_isOneOf.2 ⟨Nat.le_of_ble_eq_true rfl, Nat.le_of_ble_eq_true rfl⟩) [] rfl rfl rfl rfl (Nat.le_of_ble_eq_true rfl) ⟨Nat.zero_le _, Nat.zero_le _⟩ dX3_mean_11) 14 rfl ?_
    refine g_if_eq C dX3_mean_14 hR 21 17 (by decide) rfl (fun c_14 hR => ?_) (fun c_14 hR => ?_)
    · refine g_iconst C dX3_mean_21 0 ic_0 22 rfl ?_
      refine g_iload_n C dX3_mean_22 rfl 23 rfl ?_
      refine g_iconst C dX3_mean_23 2 ic_2 24 rfl ?_
      refine g_callIR C (rn_S C (k_X3_isOneOf l g p2 2) (va_cwS 2 C.1.2.2.2.2 (gdS wl_95 wl_93 wl_94 wl_2) rfl rfl rfl hd_X3_isOneOf.2 ⟨Nat.le_of_ble_eq_true rfl, Nat.le_of_ble_eq_true rfl⟩) [] rfl rfl rfl rfl (Nat.le_of_ble_eq_true rfl) ⟨Nat.zero_le _, Nat.zero_le _⟩ dX3_mean_24) 27 rfl ?_
      refine g_callIR C (rn_V C (k_X3_refusalInHand l g b y S false (f_X3_isOneOf p2 2)) (cwV 2 C.1.2.2.2.2 (gdV wl_353 wl_350 wl_351 wl_352 wl_2) rfl rfl rfl hd_X3_refusalInHand ⟨Nat.le_of_ble_eq_true rfl, Nat.le_of_ble_eq_true rfl⟩) 0 rfl rfl _ rg_C rg_n rfl rfl (Nat.le_of_ble_eq_true rfl) ⟨Nat.zero_le _, Nat.zero_le _⟩ dX3_mean_27) 30 rfl ?_
      refine g_istore C dX3_mean_30 [_, _, _, _, _] (Nat.le_of_ble_eq_true rfl) rfl rfl 32 rfl ?_
      refine g_iload C dX3_mean_32 rfl 34 rfl ?_
      refine g_if_eq C dX3_mean_34 hR 44 37 (by decide) rfl (fun c_34 hR => ?_) (fun c_34 hR => ?_)
      · refine g_aload_n C dX3_mean_44 rfl 45 rfl ?_
        obtain ⟨v5, hv5, hR⟩ := opt_b hR
        refine g_callV C (rn_V C (k_X3_think l g b y S N_ v5 hv5) (cwV 0 C.1.2.2.2.2 (gdV wl_403 wl_400 wl_401 wl_402 wl_2) rfl rfl rfl hd_X3_think ⟨Nat.le_of_ble_eq_true rfl, Nat.le_of_ble_eq_true rfl⟩) 0 rfl rfl _ rg_C rg_n rfl rfl (Nat.le_of_ble_eq_true rfl) ⟨Nat.zero_le _, Nat.zero_le _⟩ dX3_mean_45) (wC g b y v5) (rg_put (wC_len.trans wC_len.symm)) (rg_len (wC_len.trans wC_len.symm)) 48 rfl ?_
        refine g_aload_n C dX3_mean_48 rfl 49 rfl ?_
        refine g_get (v := .ref (b 22)) C (hiC hiA_3) 0 rfl rfl 9 (by decide) (List.mem_cons_of_mem _ wl_28) rfl rfl dX3_mean_49 52 rfl ?_
        refine g_getN (v := .int (v5.1 34 2)) C (hiC hiA_0) 37 rfl rfl 2 (by decide) (List.mem_of_getElem? (i := 3) rfl) rfl rfl dX3_mean_52 55 rfl ?_
        refine g_i2l C dX3_mean_55 56 rfl ?_
        refine g_aload_n C dX3_mean_56 rfl 57 rfl ?_
        refine g_get (v := .ref (b 1)) C (hiC hiA_3) 0 rfl rfl 0 (by decide) (List.mem_cons_of_mem _ wl_15) rfl rfl dX3_mean_57 60 rfl ?_
        refine g_iload_n C dX3_mean_60 rfl 61 rfl ?_
        refine g_iload_n C dX3_mean_61 rfl 62 rfl ?_
        refine g_aload_n C dX3_mean_62 rfl 63 rfl ?_
        refine g_get (v := .ref (b 24)) C (hiC hiA_3) 0 rfl rfl 11 (by decide) (List.mem_cons_of_mem _ wl_33) rfl rfl dX3_mean_63 66 rfl ?_
        obtain ⟨v6, hv6, hR⟩ := opt_b hR
        refine g_callLR C (rn_VN C (k_X1_netSum l g (b 1) (b 2) (b 3) (b 4) (b 5) (b 6) (b 24) (b 27) (v5.1 0 0) (v5.1 0 1) (v5.1 0 2) (v5.1 0 3) (v5.1 0 4) (v5.2 0) p0 p1 N_ v6 hv6) ⟨va_cnB 3 C.1.2.2.2.2 (gdA wl_513) rfl rfl rfl (nst C (List.mem_of_getElem? (i := 19) rfl)) (C.1.2.2.2.2 _ (List.mem_cons_of_mem _ wl_14)) hd_X1_netSum.2 ⟨Nat.le_of_ble_eq_true rfl, Nat.le_of_ble_eq_true rfl⟩, C.1.2.2.2.2 _ (List.mem_cons_of_mem _ wl_511), C.1.2.2.2.2 _ (List.mem_cons_of_mem _ wl_512)⟩ 1 rfl rfl [1, 39, 42] rfl rfl rfl rfl (Nat.le_of_ble_eq_true rfl) ⟨Nat.zero_le _, Nat.zero_le _⟩ dX3_mean_66) 69 rfl ?_
        refine g_lmul C dX3_mean_69 70 rfl ?_
        refine g_aload_n C dX3_mean_70 rfl 71 rfl ?_
        refine g_get (v := .ref (b 24)) C (hiC hiA_3) 0 rfl rfl 11 (by decide) (List.mem_cons_of_mem _ wl_33) rfl rfl dX3_mean_71 74 rfl ?_
        obtain ⟨v7, hv7, hR⟩ := opt_b hR
        refine g_callLR C (rn_VN C (k_X2_sumOfAll l g (b 24) (b 27) (v5.2 0) N_ v7 hv7) ⟨va_cnB 0 C.1.2.2.2.2 (gdA wl_478) rfl rfl rfl (nst C (List.mem_of_getElem? (i := 18) rfl)) (C.1.2.2.2.2 _ (List.mem_cons_of_mem _ wl_32)) hd_X2_sumOfAll.2 ⟨Nat.le_of_ble_eq_true rfl, Nat.le_of_ble_eq_true rfl⟩, C.1.2.2.2.2 _ (List.mem_cons_of_mem _ wl_476), C.1.2.2.2.2 _ (List.mem_cons_of_mem _ wl_477)⟩ 39 rfl rfl [39, 42] rfl rfl rfl rfl (Nat.le_of_ble_eq_true rfl) ⟨Nat.zero_le _, Nat.zero_le _⟩ dX3_mean_74) 77 rfl ?_
        refine g_iload_n C dX3_mean_77 rfl 78 rfl ?_
        obtain ⟨v8, hv8, hR⟩ := opt_b hR
        refine g_callLR C (rn_S C (k_X3_inLeastTerms l g ((Int32.toInt64 (v5.1 34 2)) * v6) v7 p2 N_ v8 hv8) (va_cwS 3 C.1.2.2.2.2 (gdS wl_481 wl_479 wl_480 wl_2) rfl rfl rfl hd_X3_inLeastTerms.2 ⟨Nat.le_of_ble_eq_true rfl, Nat.le_of_ble_eq_true rfl⟩) [] rfl rfl rfl rfl (Nat.le_of_ble_eq_true rfl) ⟨Nat.zero_le _, Nat.zero_le _⟩ dX3_mean_78) 81 rfl ?_
        obtain rfl := Option.some.inj hR
        exact g_lret C hr hlocks hA (by first | (dsimp only; done) | rfl) (by first | (dsimp only; done) | rfl) dX3_mean_81
      · refine g_aload_n C dX3_mean_37 rfl 38 rfl ?_
        refine g_iload C dX3_mean_38 rfl 40 rfl ?_
        refine g_callL C (rn_V C (k_X3_refuseLong l g b y S (f_X3_refusalInHand S false (f_X3_isOneOf p2 2))) (cwV 1 C.1.2.2.2.2 (gdV wl_453 wl_450 wl_451 wl_452 wl_2) rfl rfl rfl hd_X3_refuseLong ⟨Nat.le_of_ble_eq_true rfl, Nat.le_of_ble_eq_true rfl⟩) 0 rfl rfl _ rg_C rg_n rfl rfl (Nat.le_of_ble_eq_true rfl) ⟨Nat.zero_le _, Nat.zero_le _⟩ dX3_mean_40) (wC g b y ((f_X3_refuseLong S (f_X3_refusalInHand S false (f_X3_isOneOf p2 2))).2)) (rg_put (wC_len.trans wC_len.symm)) (rg_len (wC_len.trans wC_len.symm)) 43 rfl ?_
        obtain rfl := Option.some.inj hR
        exact g_lret C hr hlocks hA (by first | (dsimp only; done) | rfl) (by first | (dsimp only; done) | rfl) dX3_mean_43
    · refine g_iconst C dX3_mean_17 1 ic_1 18 rfl ?_
      refine g_goto C dX3_mean_18 22 (by decide) ?_
      refine g_iload_n C dX3_mean_22 rfl 23 rfl ?_
      refine g_iconst C dX3_mean_23 2 ic_2 24 rfl ?_
      refine g_callIR C (rn_S C (k_X3_isOneOf l g p2 2) (va_cwS 2 C.1.2.2.2.2 (gdS wl_95 wl_93 wl_94 wl_2) rfl rfl rfl hd_X3_isOneOf.2 ⟨Nat.le_of_ble_eq_true rfl, Nat.le_of_ble_eq_true rfl⟩) [] rfl rfl rfl rfl (Nat.le_of_ble_eq_true rfl) ⟨Nat.zero_le _, Nat.zero_le _⟩ dX3_mean_24) 27 rfl ?_
      refine g_callIR C (rn_V C (k_X3_refusalInHand l g b y S true (f_X3_isOneOf p2 2)) (cwV 2 C.1.2.2.2.2 (gdV wl_353 wl_350 wl_351 wl_352 wl_2) rfl rfl rfl hd_X3_refusalInHand ⟨Nat.le_of_ble_eq_true rfl, Nat.le_of_ble_eq_true rfl⟩) 0 rfl rfl _ rg_C rg_n rfl rfl (Nat.le_of_ble_eq_true rfl) ⟨Nat.zero_le _, Nat.zero_le _⟩ dX3_mean_27) 30 rfl ?_
      refine g_istore C dX3_mean_30 [_, _, _, _, _] (Nat.le_of_ble_eq_true rfl) rfl rfl 32 rfl ?_
      refine g_iload C dX3_mean_32 rfl 34 rfl ?_
      refine g_if_eq C dX3_mean_34 hR 44 37 (by decide) rfl (fun c_34 hR => ?_) (fun c_34 hR => ?_)
      · refine g_aload_n C dX3_mean_44 rfl 45 rfl ?_
        obtain ⟨v9, hv9, hR⟩ := opt_b hR
        refine g_callV C (rn_V C (k_X3_think l g b y S N_ v9 hv9) (cwV 0 C.1.2.2.2.2 (gdV wl_403 wl_400 wl_401 wl_402 wl_2) rfl rfl rfl hd_X3_think ⟨Nat.le_of_ble_eq_true rfl, Nat.le_of_ble_eq_true rfl⟩) 0 rfl rfl _ rg_C rg_n rfl rfl (Nat.le_of_ble_eq_true rfl) ⟨Nat.zero_le _, Nat.zero_le _⟩ dX3_mean_45) (wC g b y v9) (rg_put (wC_len.trans wC_len.symm)) (rg_len (wC_len.trans wC_len.symm)) 48 rfl ?_
        refine g_aload_n C dX3_mean_48 rfl 49 rfl ?_
        refine g_get (v := .ref (b 22)) C (hiC hiA_3) 0 rfl rfl 9 (by decide) (List.mem_cons_of_mem _ wl_28) rfl rfl dX3_mean_49 52 rfl ?_
        refine g_getN (v := .int (v9.1 34 2)) C (hiC hiA_0) 37 rfl rfl 2 (by decide) (List.mem_of_getElem? (i := 3) rfl) rfl rfl dX3_mean_52 55 rfl ?_
        refine g_i2l C dX3_mean_55 56 rfl ?_
        refine g_aload_n C dX3_mean_56 rfl 57 rfl ?_
        refine g_get (v := .ref (b 1)) C (hiC hiA_3) 0 rfl rfl 0 (by decide) (List.mem_cons_of_mem _ wl_15) rfl rfl dX3_mean_57 60 rfl ?_
        refine g_iload_n C dX3_mean_60 rfl 61 rfl ?_
        refine g_iload_n C dX3_mean_61 rfl 62 rfl ?_
        refine g_aload_n C dX3_mean_62 rfl 63 rfl ?_
        refine g_get (v := .ref (b 24)) C (hiC hiA_3) 0 rfl rfl 11 (by decide) (List.mem_cons_of_mem _ wl_33) rfl rfl dX3_mean_63 66 rfl ?_
        obtain ⟨v10, hv10, hR⟩ := opt_b hR
        refine g_callLR C (rn_VN C (k_X1_netSum l g (b 1) (b 2) (b 3) (b 4) (b 5) (b 6) (b 24) (b 27) (v9.1 0 0) (v9.1 0 1) (v9.1 0 2) (v9.1 0 3) (v9.1 0 4) (v9.2 0) p0 p1 N_ v10 hv10) ⟨va_cnB 3 C.1.2.2.2.2 (gdA wl_513) rfl rfl rfl (nst C (List.mem_of_getElem? (i := 19) rfl)) (C.1.2.2.2.2 _ (List.mem_cons_of_mem _ wl_14)) hd_X1_netSum.2 ⟨Nat.le_of_ble_eq_true rfl, Nat.le_of_ble_eq_true rfl⟩, C.1.2.2.2.2 _ (List.mem_cons_of_mem _ wl_511), C.1.2.2.2.2 _ (List.mem_cons_of_mem _ wl_512)⟩ 1 rfl rfl [1, 39, 42] rfl rfl rfl rfl (Nat.le_of_ble_eq_true rfl) ⟨Nat.zero_le _, Nat.zero_le _⟩ dX3_mean_66) 69 rfl ?_
        refine g_lmul C dX3_mean_69 70 rfl ?_
        refine g_aload_n C dX3_mean_70 rfl 71 rfl ?_
        refine g_get (v := .ref (b 24)) C (hiC hiA_3) 0 rfl rfl 11 (by decide) (List.mem_cons_of_mem _ wl_33) rfl rfl dX3_mean_71 74 rfl ?_
        obtain ⟨v11, hv11, hR⟩ := opt_b hR
        refine g_callLR C (rn_VN C (k_X2_sumOfAll l g (b 24) (b 27) (v9.2 0) N_ v11 hv11) ⟨va_cnB 0 C.1.2.2.2.2 (gdA wl_478) rfl rfl rfl (nst C (List.mem_of_getElem? (i := 18) rfl)) (C.1.2.2.2.2 _ (List.mem_cons_of_mem _ wl_32)) hd_X2_sumOfAll.2 ⟨Nat.le_of_ble_eq_true rfl, Nat.le_of_ble_eq_true rfl⟩, C.1.2.2.2.2 _ (List.mem_cons_of_mem _ wl_476), C.1.2.2.2.2 _ (List.mem_cons_of_mem _ wl_477)⟩ 39 rfl rfl [39, 42] rfl rfl rfl rfl (Nat.le_of_ble_eq_true rfl) ⟨Nat.zero_le _, Nat.zero_le _⟩ dX3_mean_74) 77 rfl ?_
        refine g_iload_n C dX3_mean_77 rfl 78 rfl ?_
        obtain ⟨v12, hv12, hR⟩ := opt_b hR
        refine g_callLR C (rn_S C (k_X3_inLeastTerms l g ((Int32.toInt64 (v9.1 34 2)) * v10) v11 p2 N_ v12 hv12) (va_cwS 3 C.1.2.2.2.2 (gdS wl_481 wl_479 wl_480 wl_2) rfl rfl rfl hd_X3_inLeastTerms.2 ⟨Nat.le_of_ble_eq_true rfl, Nat.le_of_ble_eq_true rfl⟩) [] rfl rfl rfl rfl (Nat.le_of_ble_eq_true rfl) ⟨Nat.zero_le _, Nat.zero_le _⟩ dX3_mean_78) 81 rfl ?_
        obtain rfl := Option.some.inj hR
        exact g_lret C hr hlocks hA (by first | (dsimp only; done) | rfl) (by first | (dsimp only; done) | rfl) dX3_mean_81
      · refine g_aload_n C dX3_mean_37 rfl 38 rfl ?_
        refine g_iload C dX3_mean_38 rfl 40 rfl ?_
        refine g_callL C (rn_V C (k_X3_refuseLong l g b y S (f_X3_refusalInHand S true (f_X3_isOneOf p2 2))) (cwV 1 C.1.2.2.2.2 (gdV wl_453 wl_450 wl_451 wl_452 wl_2) rfl rfl rfl hd_X3_refuseLong ⟨Nat.le_of_ble_eq_true rfl, Nat.le_of_ble_eq_true rfl⟩) 0 rfl rfl _ rg_C rg_n rfl rfl (Nat.le_of_ble_eq_true rfl) ⟨Nat.zero_le _, Nat.zero_le _⟩ dX3_mean_40) (wC g b y ((f_X3_refuseLong S (f_X3_refusalInHand S true (f_X3_isOneOf p2 2))).2)) (rg_put (wC_len.trans wC_len.symm)) (rg_len (wC_len.trans wC_len.symm)) 43 rfl ?_
        obtain rfl := Option.some.inj hR
        exact g_lret C hr hlocks hA (by first | (dsimp only; done) | rfl) (by first | (dsimp only; done) | rfl) dX3_mean_43
theorem hd_X3_best : yX3_best.cls = RX3 ∧ yX3_best.cls ≠ "java/lang/invoke/MethodHandle" ∧ yX3_best.cls ≠ "java/lang/invoke/VarHandle" ∧ (parseMethodDescriptor yX3_best.desc).map (fun d => d.parameters.length) = some 1 := by decide +kernel
def f_X3_best (S : (Nat → Nat → Int32) × (Nat → Nat → Int64)) (p0 : Int32) (N_ : Nat) : Option (Int32 × ((Nat → Nat → Int32) × (Nat → Nat → Int64))) :=
  if (f_X3_refusalInHand S (f_X3_isOneOf p0 3) true) = 0 then
    (f_X3_think S N_).bind fun v1 =>
    (f_X1_bestUse (v1.1 0 3) (v1.2 0) p0 N_).bind fun v2 =>
    some (v2, v1)
  else
    some ((f_X3_refuse S (f_X3_refusalInHand S (f_X3_isOneOf p0 3) true)).1, (f_X3_refuse S (f_X3_refusalInHand S (f_X3_isOneOf p0 3) true)).2)
set_option maxRecDepth 100000 in
set_option maxHeartbeats 4000000 in
theorem k_X3_best (l : Launch) (g : gE) (b : Nat → Nat) (y : Nat → Nat → Nat) (S : (Nat → Nat → Int32) × (Nat → Nat → Int64)) (p0 : Int32) (N_ : Nat) (R_ : Int32 × ((Nat → Nat → Int32) × (Nat → Nat → Int64))) (hR : f_X3_best S p0 N_ = some R_) : FnI l g yX3_best wA_X3_best { frames := 5, cells := 0, slots := 0, locals := 107 } [.ref (b 0), .int p0] (wC g b y S) R_.1 (wC g b y R_.2) := by
  refine fEntry (As := [.ref (b 0), .int p0]) (maxL := 3) (ret := (some .int)) (by decide) rfl [some (.ref (b 0)), some (.int p0), none] (Nat.le_of_ble_eq_true rfl) (lvInB.to (lvInB.sm (lvInB.sm (lvInB.nn lvInB.nil)))) ?_
  intro p e s m below meth c A C hr hlocks hname hA
  have C : Cx p s m _ c g A cX3_best 3 wA_X3_best RX3 := C
  rw [f_X3_best] at hR
  refine g_aload_n C dX3_best_0 rfl 1 rfl ?_
  refine g_iload_n C dX3_best_1 rfl 2 rfl ?_
  refine g_iconst C dX3_best_2 3 ic_3 3 rfl ?_
  refine g_callIR C (rn_S C (k_X3_isOneOf l g p0 3) (va_cwS 2 C.1.2.2.2.2 (gdS wl_95 wl_93 wl_94 wl_2) rfl rfl rfl hd_X3_isOneOf.2 ⟨Nat.le_of_ble_eq_true rfl, Nat.le_of_ble_eq_true rfl⟩) [] rfl rfl rfl rfl (Nat.le_of_ble_eq_true rfl) ⟨Nat.zero_le _, Nat.zero_le _⟩ dX3_best_3) 6 rfl ?_
  refine g_iconst C dX3_best_6 1 ic_1 7 rfl ?_
  refine g_callIR C (rn_V C (k_X3_refusalInHand l g b y S (f_X3_isOneOf p0 3) true) (cwV 2 C.1.2.2.2.2 (gdV wl_353 wl_350 wl_351 wl_352 wl_2) rfl rfl rfl hd_X3_refusalInHand ⟨Nat.le_of_ble_eq_true rfl, Nat.le_of_ble_eq_true rfl⟩) 0 rfl rfl _ rg_C rg_n rfl rfl (Nat.le_of_ble_eq_true rfl) ⟨Nat.zero_le _, Nat.zero_le _⟩ dX3_best_7) 10 rfl ?_
  refine g_istore_n C dX3_best_10 [_, _, _] (Nat.le_of_ble_eq_true rfl) rfl rfl 11 rfl ?_
  refine g_iload_n C dX3_best_11 rfl 12 rfl ?_
  refine g_if_eq C dX3_best_12 hR 21 15 (by decide) rfl (fun c_12 hR => ?_) (fun c_12 hR => ?_)
  · refine g_aload_n C dX3_best_21 rfl 22 rfl ?_
    obtain ⟨v1, hv1, hR⟩ := opt_b hR
    refine g_callV C (rn_V C (k_X3_think l g b y S N_ v1 hv1) (cwV 0 C.1.2.2.2.2 (gdV wl_403 wl_400 wl_401 wl_402 wl_2) rfl rfl rfl hd_X3_think ⟨Nat.le_of_ble_eq_true rfl, Nat.le_of_ble_eq_true rfl⟩) 0 rfl rfl _ rg_C rg_n rfl rfl (Nat.le_of_ble_eq_true rfl) ⟨Nat.zero_le _, Nat.zero_le _⟩ dX3_best_22) (wC g b y v1) (rg_put (wC_len.trans wC_len.symm)) (rg_len (wC_len.trans wC_len.symm)) 25 rfl ?_
    refine g_aload_n C dX3_best_25 rfl 26 rfl ?_
    refine g_get (v := .ref (b 1)) C (hiC hiA_3) 0 rfl rfl 0 (by decide) (List.mem_cons_of_mem _ wl_15) rfl rfl dX3_best_26 29 rfl ?_
    refine g_iload_n C dX3_best_29 rfl 30 rfl ?_
    refine g_aload_n C dX3_best_30 rfl 31 rfl ?_
    refine g_get (v := .ref (b 24)) C (hiC hiA_3) 0 rfl rfl 11 (by decide) (List.mem_cons_of_mem _ wl_33) rfl rfl dX3_best_31 34 rfl ?_
    obtain ⟨v2, hv2, hR⟩ := opt_b hR
    refine g_callIR C (rn_VN C (k_X1_bestUse l g (b 1) (b 2) (b 3) (b 4) (b 5) (b 6) (b 24) (b 27) (v1.1 0 0) (v1.1 0 1) (v1.1 0 2) (v1.1 0 3) (v1.1 0 4) (v1.2 0) p0 N_ v2 hv2) ⟨va_cnB 2 C.1.2.2.2.2 (gdA wl_549) rfl rfl rfl (nst C (List.mem_of_getElem? (i := 20) rfl)) (C.1.2.2.2.2 _ (List.mem_cons_of_mem _ wl_14)) hd_X1_bestUse.2 ⟨Nat.le_of_ble_eq_true rfl, Nat.le_of_ble_eq_true rfl⟩, C.1.2.2.2.2 _ (List.mem_cons_of_mem _ wl_547), C.1.2.2.2.2 _ (List.mem_cons_of_mem _ wl_548)⟩ 1 rfl rfl [1, 39, 42] rfl rfl rfl rfl (Nat.le_of_ble_eq_true rfl) ⟨Nat.zero_le _, Nat.zero_le _⟩ dX3_best_34) 37 rfl ?_
    obtain rfl := Option.some.inj hR
    exact g_iret C hr hlocks hA (by first | (dsimp only; done) | rfl) (by first | (dsimp only; done) | rfl) dX3_best_37
  · refine g_aload_n C dX3_best_15 rfl 16 rfl ?_
    refine g_iload_n C dX3_best_16 rfl 17 rfl ?_
    refine g_callI C (rn_V C (k_X3_refuse l g b y S (f_X3_refusalInHand S (f_X3_isOneOf p0 3) true)) (cwV 1 C.1.2.2.2.2 (gdV wl_99 wl_96 wl_97 wl_98 wl_2) rfl rfl rfl hd_X3_refuse ⟨Nat.le_of_ble_eq_true rfl, Nat.le_of_ble_eq_true rfl⟩) 0 rfl rfl _ rg_C rg_n rfl rfl (Nat.le_of_ble_eq_true rfl) ⟨Nat.zero_le _, Nat.zero_le _⟩ dX3_best_17) (wC g b y ((f_X3_refuse S (f_X3_refusalInHand S (f_X3_isOneOf p0 3) true)).2)) (rg_put (wC_len.trans wC_len.symm)) (rg_len (wC_len.trans wC_len.symm)) 20 rfl ?_
    obtain rfl := Option.some.inj hR
    exact g_iret C hr hlocks hA (by first | (dsimp only; done) | rfl) (by first | (dsimp only; done) | rfl) dX3_best_20
theorem hd_X3_sure : yX3_sure.cls = RX3 ∧ yX3_sure.cls ≠ "java/lang/invoke/MethodHandle" ∧ yX3_sure.cls ≠ "java/lang/invoke/VarHandle" ∧ (parseMethodDescriptor yX3_sure.desc).map (fun d => d.parameters.length) = some 1 := by decide +kernel
def f_X3_sure_L30 (S : (Nat → Nat → Int32) × (Nat → Nat → Int64)) (N_ : Nat) : Nat → Int32 → Int32 → Option (Int32 × Int32)
  | 0, _, _ => none
  | n_ + 1, x3, x4 =>
    if 5 ≤ x4 then
      some (x3, x4)
    else
      (f_X3_harmSum (S.2 0) x4 N_).bind fun v4 =>
      if (lg_cmp v4 0) = 0 then
        f_X3_sure_L30 S N_ n_ (x3 ||| ((1 : Int32) <<< (x4 &&& 31))) (x4 + 1)
      else
        f_X3_sure_L30 S N_ n_ x3 (x4 + 1)
set_option maxRecDepth 100000 in
set_option maxHeartbeats 4000000 in
theorem k_X3_sure_L30 (l : Launch) (g : gE) {p : Program} {e : Env} {s : State} {m : MethodId} {args : Array Value} {below : List Frame} {meth : Method} {c : Code} {Q : State → Prop} {A : Nat → Prop} {b : Nat → Nat}  (C : Cx p s m args c g A cX3_sure 5 wA_X3_sure RX3) (N_ : Nat) (x1 : Int32) (x2 : Int32) (y : Nat → Nat → Nat) (S : (Nat → Nat → Int32) × (Nat → Nat → Int64)) : ∀ (n_ : Nat) (x3 : Int32) (x4 : Int32) (rv_ : Int32 × Int32), f_X3_sure_L30 S N_ n_ x3 x4 = some rv_ → (Gm p l e (headSpec wA_X3_sure ({ frames := 5, cells := 0, slots := 0, locals := 107 } : Room)).room s m args below meth c Q g A 5 0 0 (wC g b y S) [some (.ref (b 0)), some (.int x1), some (.int x2), some (.int rv_.1), some (.int rv_.2)] [] 63) → Gm p l e (headSpec wA_X3_sure ({ frames := 5, cells := 0, slots := 0, locals := 107 } : Room)).room s m args below meth c Q g A 5 0 0 (wC g b y S) [some (.ref (b 0)), some (.int x1), some (.int x2), some (.int x3), some (.int x4)] [] 30 := by
  intro n_
  induction n_ with
  | zero =>
    intro x3 x4 rv_ hR
    simp [f_X3_sure_L30] at hR
  | succ n_ ih =>
    intro x3 x4 rv_ hR hk
    rw [f_X3_sure_L30] at hR
    refine g_iload C dX3_sure_30 rfl 32 rfl ?_
    refine g_iconst C dX3_sure_32 5 ic_5 33 rfl ?_
    refine g_icmp_ge C dX3_sure_33 hR 63 36 (by decide) rfl (fun c_33 hR => ?_) (fun c_33 hR => ?_)
    · obtain rfl := Option.some.inj hR
      refine g_lv [some (.ref (b 0)), some (.int x1), some (.int x2), some (.int x3), some (.int x4)] (lvLe.sm (lvLe.sm (lvLe.sm (lvLe.sm (lvLe.sm lvLe.nil))))) ?_
      exact hk
    · refine g_iload C dX3_sure_36 rfl 38 rfl ?_
      refine g_aload_n C dX3_sure_38 rfl 39 rfl ?_
      refine g_get (v := .ref (b 24)) C (hiC hiA_3) 0 rfl rfl 11 (by decide) (List.mem_cons_of_mem _ wl_33) rfl rfl dX3_sure_39 42 rfl ?_
      obtain ⟨v4, hv4, hR⟩ := opt_b hR
      refine g_callLR C (rn_S C (k_X3_harmSum l g (b 24) (b 27) (S.2 0) x4 N_ v4 hv4) (va_cwS 2 C.1.2.2.2.2 (gdS wl_569 wl_567 wl_568 wl_2) rfl rfl rfl hd_X3_harmSum.2 ⟨Nat.le_of_ble_eq_true rfl, Nat.le_of_ble_eq_true rfl⟩) [39, 42] rfl rfl rfl rfl (Nat.le_of_ble_eq_true rfl) ⟨Nat.zero_le _, Nat.zero_le _⟩ dX3_sure_42) 45 rfl ?_
      refine g_lconst C dX3_sure_45 0 (by decide) 46 rfl ?_
      refine g_lcmp C dX3_sure_46 47 rfl ?_
      refine g_if_ne C dX3_sure_47 hR 57 50 (by decide) rfl (fun c_47 hR => ?_) (fun c_47 hR => ?_)
      · refine g_iinc C dX3_sure_57 rfl 1 ic_1 [_, _, _, _, _] (Nat.le_of_ble_eq_true rfl) rfl rfl 60 rfl ?_
        refine g_goto C dX3_sure_60 30 (by decide) ?_
        refine g_lv [some (.ref (b 0)), some (.int x1), some (.int x2), some (.int x3), some (.int (x4 + 1))] (lvLe.sm (lvLe.sm (lvLe.sm (lvLe.sm (lvLe.sm lvLe.nil))))) ?_
        exact ih _ _ rv_ hR hk
      · refine g_iload_n C dX3_sure_50 rfl 51 rfl ?_
        refine g_iconst C dX3_sure_51 1 ic_1 52 rfl ?_
        refine g_iload C dX3_sure_52 rfl 54 rfl ?_
        refine g_ishl C dX3_sure_54 55 rfl ?_
        refine g_ior C dX3_sure_55 56 rfl ?_
        refine g_istore_n C dX3_sure_56 [_, _, _, _, _] (Nat.le_of_ble_eq_true rfl) rfl rfl 57 rfl ?_
        refine g_iinc C dX3_sure_57 rfl 1 ic_1 [_, _, _, _, _] (Nat.le_of_ble_eq_true rfl) rfl rfl 60 rfl ?_
        refine g_goto C dX3_sure_60 30 (by decide) ?_
        refine g_lv [some (.ref (b 0)), some (.int x1), some (.int x2), some (.int (x3 ||| ((1 : Int32) <<< (x4 &&& 31)))), some (.int (x4 + 1))] (lvLe.sm (lvLe.sm (lvLe.sm (lvLe.sm (lvLe.sm lvLe.nil))))) ?_
        exact ih _ _ rv_ hR hk
def f_X3_sure (S : (Nat → Nat → Int32) × (Nat → Nat → Int64)) (p0 : Int32) (N_ : Nat) : Option (Int32 × ((Nat → Nat → Int32) × (Nat → Nat → Int64))) :=
  if (f_X3_refusalInHand S (f_X3_isOneOf p0 3) true) = 0 then
    (f_X3_think S N_).bind fun v1 =>
    (f_X3_sure_L30 v1 N_ N_ 0 0).bind fun v5 =>
    some (v5.1, v1)
  else
    some ((f_X3_refuse S (f_X3_refusalInHand S (f_X3_isOneOf p0 3) true)).1, (f_X3_refuse S (f_X3_refusalInHand S (f_X3_isOneOf p0 3) true)).2)
set_option maxRecDepth 100000 in
set_option maxHeartbeats 4000000 in
theorem k_X3_sure (l : Launch) (g : gE) (b : Nat → Nat) (y : Nat → Nat → Nat) (S : (Nat → Nat → Int32) × (Nat → Nat → Int64)) (p0 : Int32) (N_ : Nat) (R_ : Int32 × ((Nat → Nat → Int32) × (Nat → Nat → Int64))) (hR : f_X3_sure S p0 N_ = some R_) : FnI l g yX3_sure wA_X3_sure { frames := 5, cells := 0, slots := 0, locals := 107 } [.ref (b 0), .int p0] (wC g b y S) R_.1 (wC g b y R_.2) := by
  refine fEntry (As := [.ref (b 0), .int p0]) (maxL := 5) (ret := (some .int)) (by decide) rfl [some (.ref (b 0)), some (.int p0), none, none, none] (Nat.le_of_ble_eq_true rfl) (lvInB.to (lvInB.sm (lvInB.sm (lvInB.nn (lvInB.nn (lvInB.nn lvInB.nil)))))) ?_
  intro p e s m below meth c A C hr hlocks hname hA
  have C : Cx p s m _ c g A cX3_sure 5 wA_X3_sure RX3 := C
  rw [f_X3_sure] at hR
  refine g_aload_n C dX3_sure_0 rfl 1 rfl ?_
  refine g_iload_n C dX3_sure_1 rfl 2 rfl ?_
  refine g_iconst C dX3_sure_2 3 ic_3 3 rfl ?_
  refine g_callIR C (rn_S C (k_X3_isOneOf l g p0 3) (va_cwS 2 C.1.2.2.2.2 (gdS wl_95 wl_93 wl_94 wl_2) rfl rfl rfl hd_X3_isOneOf.2 ⟨Nat.le_of_ble_eq_true rfl, Nat.le_of_ble_eq_true rfl⟩) [] rfl rfl rfl rfl (Nat.le_of_ble_eq_true rfl) ⟨Nat.zero_le _, Nat.zero_le _⟩ dX3_sure_3) 6 rfl ?_
  refine g_iconst C dX3_sure_6 1 ic_1 7 rfl ?_
  refine g_callIR C (rn_V C (k_X3_refusalInHand l g b y S (f_X3_isOneOf p0 3) true) (cwV 2 C.1.2.2.2.2 (gdV wl_353 wl_350 wl_351 wl_352 wl_2) rfl rfl rfl hd_X3_refusalInHand ⟨Nat.le_of_ble_eq_true rfl, Nat.le_of_ble_eq_true rfl⟩) 0 rfl rfl _ rg_C rg_n rfl rfl (Nat.le_of_ble_eq_true rfl) ⟨Nat.zero_le _, Nat.zero_le _⟩ dX3_sure_7) 10 rfl ?_
  refine g_istore_n C dX3_sure_10 [_, _, _, _, _] (Nat.le_of_ble_eq_true rfl) rfl rfl 11 rfl ?_
  refine g_iload_n C dX3_sure_11 rfl 12 rfl ?_
  refine g_if_eq C dX3_sure_12 hR 21 15 (by decide) rfl (fun c_12 hR => ?_) (fun c_12 hR => ?_)
  · refine g_aload_n C dX3_sure_21 rfl 22 rfl ?_
    obtain ⟨v1, hv1, hR⟩ := opt_b hR
    refine g_callV C (rn_V C (k_X3_think l g b y S N_ v1 hv1) (cwV 0 C.1.2.2.2.2 (gdV wl_403 wl_400 wl_401 wl_402 wl_2) rfl rfl rfl hd_X3_think ⟨Nat.le_of_ble_eq_true rfl, Nat.le_of_ble_eq_true rfl⟩) 0 rfl rfl _ rg_C rg_n rfl rfl (Nat.le_of_ble_eq_true rfl) ⟨Nat.zero_le _, Nat.zero_le _⟩ dX3_sure_22) (wC g b y v1) (rg_put (wC_len.trans wC_len.symm)) (rg_len (wC_len.trans wC_len.symm)) 25 rfl ?_
    refine g_iconst C dX3_sure_25 0 ic_0 26 rfl ?_
    refine g_istore_n C dX3_sure_26 [_, _, _, _, _] (Nat.le_of_ble_eq_true rfl) rfl rfl 27 rfl ?_
    refine g_iconst C dX3_sure_27 0 ic_0 28 rfl ?_
    refine g_istore C dX3_sure_28 [_, _, _, _, _] (Nat.le_of_ble_eq_true rfl) rfl rfl 30 rfl ?_
    refine g_lv [some (.ref (b 0)), some (.int p0), some (.int (f_X3_refusalInHand S (f_X3_isOneOf p0 3) true)), some (.int 0), some (.int 0)] (lvLe.sm (lvLe.sm (lvLe.sm (lvLe.sm (lvLe.sm lvLe.nil))))) ?_
    obtain ⟨v5, hv5, hR⟩ := opt_b hR
    refine k_X3_sure_L30 l g C N_ p0 (f_X3_refusalInHand S (f_X3_isOneOf p0 3) true) y v1 N_ 0 0 _ hv5 ?_
    refine g_iload_n C dX3_sure_63 rfl 64 rfl ?_
    obtain rfl := Option.some.inj hR
    exact g_iret C hr hlocks hA (by first | (dsimp only; done) | rfl) (by first | (dsimp only; done) | rfl) dX3_sure_64
  · refine g_aload_n C dX3_sure_15 rfl 16 rfl ?_
    refine g_iload_n C dX3_sure_16 rfl 17 rfl ?_
    refine g_callI C (rn_V C (k_X3_refuse l g b y S (f_X3_refusalInHand S (f_X3_isOneOf p0 3) true)) (cwV 1 C.1.2.2.2.2 (gdV wl_99 wl_96 wl_97 wl_98 wl_2) rfl rfl rfl hd_X3_refuse ⟨Nat.le_of_ble_eq_true rfl, Nat.le_of_ble_eq_true rfl⟩) 0 rfl rfl _ rg_C rg_n rfl rfl (Nat.le_of_ble_eq_true rfl) ⟨Nat.zero_le _, Nat.zero_le _⟩ dX3_sure_17) (wC g b y ((f_X3_refuse S (f_X3_refusalInHand S (f_X3_isOneOf p0 3) true)).2)) (rg_put (wC_len.trans wC_len.symm)) (rg_len (wC_len.trans wC_len.symm)) 20 rfl ?_
    obtain rfl := Option.some.inj hR
    exact g_iret C hr hlocks hA (by first | (dsimp only; done) | rfl) (by first | (dsimp only; done) | rfl) dX3_sure_20
