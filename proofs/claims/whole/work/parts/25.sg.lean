theorem hd_X3_refuse : yX3_refuse.cls = RX3 ∧ yX3_refuse.cls ≠ "java/lang/invoke/MethodHandle" ∧ yX3_refuse.cls ≠ "java/lang/invoke/VarHandle" ∧ (parseMethodDescriptor yX3_refuse.desc).map (fun d => d.parameters.length) = some 1 := by decide +kernel
def f_X3_refuse (S : (Nat → Nat → Int32) × (Nat → Nat → Int64)) (p0 : Int32) : Int32 × ((Nat → Nat → Int32) × (Nat → Nat → Int64)) :=
  if (-p0) < 0 then
    (p0, S)
  else
    if 7 ≤ (-p0) then
      (p0, S)
    else
      (p0, ((kS S.1 33 (upd (S.1 33) (Int32.toNatClampNeg (-p0)) (((S.1 33) (Int32.toNatClampNeg (-p0))) + 1))), S.2))
set_option maxRecDepth 100000 in
set_option maxHeartbeats 4000000 in
theorem k_X3_refuse (l : Launch) (g : gE) (b : Nat → Nat) (y : Nat → Nat → Nat) (S : (Nat → Nat → Int32) × (Nat → Nat → Int64)) (p0 : Int32) : FnI l g yX3_refuse wA_X3_refuse { frames := 0, cells := 0, slots := 0, locals := 0 } [.ref (b 0), .int p0] (wC g b y S) ((f_X3_refuse S p0).1) (wC g b y ((f_X3_refuse S p0).2)) := by
  generalize hR : f_X3_refuse S p0 = R_
  refine fEntry (As := [.ref (b 0), .int p0]) (maxL := 3) (ret := (some .int)) (by decide) rfl [some (.ref (b 0)), some (.int p0), none] (Nat.le_of_ble_eq_true rfl) (lvInB.to (lvInB.sm (lvInB.sm (lvInB.nn lvInB.nil)))) ?_
  intro p e s m below meth c A C hr hlocks hname hA
  have C : Cx p s m _ c g A cX3_refuse 3 wA_X3_refuse RX3 := C
  rw [f_X3_refuse] at hR
  refine g_iload_n C dX3_refuse_0 rfl 1 rfl ?_
  refine g_ineg C dX3_refuse_1 2 rfl ?_
  refine g_istore_n C dX3_refuse_2 [_, _, _] (Nat.le_of_ble_eq_true rfl) rfl rfl 3 rfl ?_
  refine g_iload_n C dX3_refuse_3 rfl 4 rfl ?_
  refine g_if_lt C dX3_refuse_4 hR 26 7 (by decide) rfl (fun c_4 hR => ?_) (fun c_4 hR => ?_)
  · refine g_iload_n C dX3_refuse_26 rfl 27 rfl ?_
    subst hR
    exact g_iret C hr hlocks hA (by first | (dsimp only; done) | rfl) (by first | (dsimp only; done) | rfl) dX3_refuse_27
  · refine g_iload_n C dX3_refuse_7 rfl 8 rfl ?_
    refine g_aload_n C dX3_refuse_8 rfl 9 rfl ?_
    refine g_get (v := .ref (b 21)) C (hiC hiA_3) 0 rfl rfl 8 (by decide) (List.mem_cons_of_mem _ wl_24) rfl rfl dX3_refuse_9 12 rfl ?_
    refine g_alen C 36 0 rfl rfl 7 (show Int32.ofNat 7 = 7 by decide) dX3_refuse_12 13 rfl ?_
    refine g_icmp_ge C dX3_refuse_13 hR 26 16 (by decide) rfl (fun c_13 hR => ?_) (fun c_13 hR => ?_)
    · refine g_iload_n C dX3_refuse_26 rfl 27 rfl ?_
      subst hR
      exact g_iret C hr hlocks hA (by first | (dsimp only; done) | rfl) (by first | (dsimp only; done) | rfl) dX3_refuse_27
    · refine g_aload_n C dX3_refuse_16 rfl 17 rfl ?_
      refine g_get (v := .ref (b 21)) C (hiC hiA_3) 0 rfl rfl 8 (by decide) (List.mem_cons_of_mem _ wl_24) rfl rfl dX3_refuse_17 20 rfl ?_
      refine g_iload_n C dX3_refuse_20 rfl 21 rfl ?_
      refine g_dup2 C dX3_refuse_21 rfl rfl 22 rfl ?_
      refine g_iald (f := (S.1 33)) C 36 rfl (at_in c_4 c_13 (by decide)) dX3_refuse_22 23 rfl ?_
      refine g_iconst C dX3_refuse_23 1 ic_1 24 rfl ?_
      refine g_iadd C dX3_refuse_24 25 rfl ?_
      refine g_iast (f := (S.1 33)) C 36 rfl (at_in c_4 c_13 (by decide)) dX3_refuse_25 (wC g b y ((kS S.1 33 (upd (S.1 33) (Int32.toNatClampNeg (-p0)) (((S.1 33) (Int32.toNatClampNeg (-p0))) + 1))), S.2)) rfl 26 rfl ?_
      refine g_iload_n C dX3_refuse_26 rfl 27 rfl ?_
      subst hR
      exact g_iret C hr hlocks hA (by first | (dsimp only; done) | rfl) (by first | (dsimp only; done) | rfl) dX3_refuse_27
theorem hd_X3_refusalInHand : yX3_refusalInHand.cls = RX3 ∧ yX3_refusalInHand.cls ≠ "java/lang/invoke/MethodHandle" ∧ yX3_refusalInHand.cls ≠ "java/lang/invoke/VarHandle" ∧ (parseMethodDescriptor yX3_refusalInHand.desc).map (fun d => d.parameters.length) = some 2 := by decide +kernel
def f_X3_refusalInHand (S : (Nat → Nat → Int32) × (Nat → Nat → Int64)) (q0 : Bool) (q1 : Bool) : Int32 :=
  if (b2i q0) = 0 then
    (-1)
  else
    if (b2i q1) = 0 then
      (-2)
    else
      if jIn (S.1 0 0) (S.1 0 1) then
        0
      else
        (-3)
set_option maxRecDepth 100000 in
set_option maxHeartbeats 4000000 in
theorem k_X3_refusalInHand (l : Launch) (g : gE) (b : Nat → Nat) (y : Nat → Nat → Nat) (S : (Nat → Nat → Int32) × (Nat → Nat → Int64)) (q0 : Bool) (q1 : Bool) : FnI l g yX3_refusalInHand wA_X3_refusalInHand { frames := 3, cells := 0, slots := 0, locals := 62 } [.ref (b 0), .int (b2i q0), .int (b2i q1)] (wC g b y S) (f_X3_refusalInHand S q0 q1) (wC g b y S) := by
  generalize hR : f_X3_refusalInHand S q0 q1 = R_
  refine fEntry (As := [.ref (b 0), .int (b2i q0), .int (b2i q1)]) (maxL := 3) (ret := (some .int)) (by decide) rfl [some (.ref (b 0)), some (.int (b2i q0)), some (.int (b2i q1))] (Nat.le_of_ble_eq_true rfl) (lvInB.to (lvInB.sm (lvInB.sm (lvInB.sm lvInB.nil)))) ?_
  intro p e s m below meth c A C hr hlocks hname hA
  have C : Cx p s m _ c g A cX3_refusalInHand 3 wA_X3_refusalInHand RX3 := C
  rw [f_X3_refusalInHand] at hR
  refine g_iload_n C dX3_refusalInHand_0 rfl 1 rfl ?_
  refine g_if_ne C dX3_refusalInHand_1 hR 6 4 (by decide) rfl (fun c_1 hR => ?_) (fun c_1 hR => ?_)
  · refine g_iload_n C dX3_refusalInHand_6 rfl 7 rfl ?_
    refine g_if_ne C dX3_refusalInHand_7 hR 13 10 (by decide) rfl (fun c_7 hR => ?_) (fun c_7 hR => ?_)
    · refine g_aload_n C dX3_refusalInHand_13 rfl 14 rfl ?_
      refine g_get (v := .ref (b 1)) C (hiC hiA_3) 0 rfl rfl 0 (by decide) (List.mem_cons_of_mem _ wl_15) rfl rfl dX3_refusalInHand_14 17 rfl ?_
      refine g_callQR C (rn_VN C (k_X1_inHandq l g (b 1) (b 2) (b 3) (b 4) (b 5) (b 6) (S.1 0 0) (S.1 0 1) (S.1 0 2) (S.1 0 3) (S.1 0 4) (y 0)) ⟨va_cnB 0 C.1.2.2.2.2 (gdA wl_199) rfl rfl rfl (nst C (List.mem_of_getElem? (i := 14) rfl)) (C.1.2.2.2.2 _ (List.mem_cons_of_mem _ wl_14)) hd_X1_inHand.2 ⟨Nat.le_of_ble_eq_true rfl, Nat.le_of_ble_eq_true rfl⟩, C.1.2.2.2.2 _ (List.mem_cons_of_mem _ wl_197), C.1.2.2.2.2 _ (List.mem_cons_of_mem _ wl_198)⟩ 1 rfl rfl [1, 2] rfl rfl rfl rfl (Nat.le_of_ble_eq_true rfl) ⟨Nat.zero_le _, Nat.zero_le _⟩ dX3_refusalInHand_17) hR 20 rfl (fun c_17 hR => ?_) (fun c_17 hR => ?_)
      · have hj_17 : (Int32.toNatClampNeg (S.1 0 1)) < 5 := jIn_lt c_17
        refine g_nonnull C dX3_refusalInHand_20 28 (by decide) ?_
        refine g_iconst C dX3_refusalInHand_28 0 ic_0 29 rfl ?_
        subst hR
        exact g_iret C hr hlocks hA (by first | (dsimp only; done) | rfl) (by first | (dsimp only; done) | rfl) dX3_refusalInHand_29
      · refine g_nonnullN C dX3_refusalInHand_20 23 rfl ?_
        refine g_bipush C dX3_refusalInHand_23 (-3) bp_m3 25 rfl ?_
        refine g_goto C dX3_refusalInHand_25 29 (by decide) ?_
        subst hR
        exact g_iret C hr hlocks hA (by first | (dsimp only; done) | rfl) (by first | (dsimp only; done) | rfl) dX3_refusalInHand_29
    · refine g_bipush C dX3_refusalInHand_10 (-2) bp_m2 12 rfl ?_
      subst hR
      exact g_iret C hr hlocks hA (by first | (dsimp only; done) | rfl) (by first | (dsimp only; done) | rfl) dX3_refusalInHand_12
  · refine g_iconst C dX3_refusalInHand_4 (-1) ic_m1 5 rfl ?_
    subst hR
    exact g_iret C hr hlocks hA (by first | (dsimp only; done) | rfl) (by first | (dsimp only; done) | rfl) dX3_refusalInHand_5
theorem hd_X3_refuseBig : yX3_refuseBig.cls = RX3 ∧ yX3_refuseBig.cls ≠ "java/lang/invoke/MethodHandle" ∧ yX3_refuseBig.cls ≠ "java/lang/invoke/VarHandle" ∧ (parseMethodDescriptor yX3_refuseBig.desc).map (fun d => d.parameters.length) = some 1 := by decide +kernel
def f_X3_refuseBig (S : (Nat → Nat → Int32) × (Nat → Nat → Int64)) (p0 : Int32) : Int32 × ((Nat → Nat → Int32) × (Nat → Nat → Int64)) :=
  ((1000000000 - (f_X3_refuse S p0).1), (f_X3_refuse S p0).2)
set_option maxRecDepth 100000 in
set_option maxHeartbeats 4000000 in
theorem k_X3_refuseBig (l : Launch) (g : gE) (b : Nat → Nat) (y : Nat → Nat → Nat) (S : (Nat → Nat → Int32) × (Nat → Nat → Int64)) (p0 : Int32) : FnI l g yX3_refuseBig wA_X3_refuseBig { frames := 1, cells := 0, slots := 0, locals := 22 } [.ref (b 0), .int p0] (wC g b y S) ((f_X3_refuseBig S p0).1) (wC g b y ((f_X3_refuseBig S p0).2)) := by
  generalize hR : f_X3_refuseBig S p0 = R_
  refine fEntry (As := [.ref (b 0), .int p0]) (maxL := 2) (ret := (some .int)) (by decide) rfl [some (.ref (b 0)), some (.int p0)] (Nat.le_of_ble_eq_true rfl) (lvInB.to (lvInB.sm (lvInB.sm lvInB.nil))) ?_
  intro p e s m below meth c A C hr hlocks hname hA
  have C : Cx p s m _ c g A cX3_refuseBig 2 wA_X3_refuseBig RX3 := C
  rw [f_X3_refuseBig] at hR
  refine g_ldcw C dX3_refuseBig_0 (C.1.2.2.2.2 _ (List.mem_cons_of_mem _ wl_833)) 3 rfl ?_
  refine g_aload_n C dX3_refuseBig_3 rfl 4 rfl ?_
  refine g_iload_n C dX3_refuseBig_4 rfl 5 rfl ?_
  refine g_callI C (rn_V C (k_X3_refuse l g b y S p0) (cwV 1 C.1.2.2.2.2 (gdV wl_99 wl_96 wl_97 wl_98 wl_2) rfl rfl rfl hd_X3_refuse ⟨Nat.le_of_ble_eq_true rfl, Nat.le_of_ble_eq_true rfl⟩) 0 rfl rfl _ rg_C rg_n rfl rfl (Nat.le_of_ble_eq_true rfl) ⟨Nat.zero_le _, Nat.zero_le _⟩ dX3_refuseBig_5) (wC g b y ((f_X3_refuse S p0).2)) (rg_put (wC_len.trans wC_len.symm)) (rg_len (wC_len.trans wC_len.symm)) 8 rfl ?_
  refine g_isub C dX3_refuseBig_8 9 rfl ?_
  subst hR
  exact g_iret C hr hlocks hA (by first | (dsimp only; done) | rfl) (by first | (dsimp only; done) | rfl) dX3_refuseBig_9
theorem hd_X3_refuseLong : yX3_refuseLong.cls = RX3 ∧ yX3_refuseLong.cls ≠ "java/lang/invoke/MethodHandle" ∧ yX3_refuseLong.cls ≠ "java/lang/invoke/VarHandle" ∧ (parseMethodDescriptor yX3_refuseLong.desc).map (fun d => d.parameters.length) = some 1 := by decide +kernel
def f_X3_refuseLong (S : (Nat → Nat → Int32) × (Nat → Nat → Int64)) (p0 : Int32) : Int64 × ((Nat → Nat → Int32) × (Nat → Nat → Int64)) :=
  ((4000000000000000000 - (Int32.toInt64 ((f_X3_refuse S p0).1))), (f_X3_refuse S p0).2)
set_option maxRecDepth 100000 in
set_option maxHeartbeats 4000000 in
theorem k_X3_refuseLong (l : Launch) (g : gE) (b : Nat → Nat) (y : Nat → Nat → Nat) (S : (Nat → Nat → Int32) × (Nat → Nat → Int64)) (p0 : Int32) : FnL l g yX3_refuseLong wA_X3_refuseLong { frames := 1, cells := 0, slots := 0, locals := 22 } [.ref (b 0), .int p0] (wC g b y S) ((f_X3_refuseLong S p0).1) (wC g b y ((f_X3_refuseLong S p0).2)) := by
  generalize hR : f_X3_refuseLong S p0 = R_
  refine fEntry (As := [.ref (b 0), .int p0]) (maxL := 2) (ret := (some .long)) (by decide) rfl [some (.ref (b 0)), some (.int p0)] (Nat.le_of_ble_eq_true rfl) (lvInB.to (lvInB.sm (lvInB.sm lvInB.nil))) ?_
  intro p e s m below meth c A C hr hlocks hname hA
  have C : Cx p s m _ c g A cX3_refuseLong 2 wA_X3_refuseLong RX3 := C
  rw [f_X3_refuseLong] at hR
  refine g_ldc2 C dX3_refuseLong_0 (C.1.2.2.2.2 _ (List.mem_cons_of_mem _ wl_454)) 3 rfl ?_
  refine g_aload_n C dX3_refuseLong_3 rfl 4 rfl ?_
  refine g_iload_n C dX3_refuseLong_4 rfl 5 rfl ?_
  refine g_callI C (rn_V C (k_X3_refuse l g b y S p0) (cwV 1 C.1.2.2.2.2 (gdV wl_99 wl_96 wl_97 wl_98 wl_2) rfl rfl rfl hd_X3_refuse ⟨Nat.le_of_ble_eq_true rfl, Nat.le_of_ble_eq_true rfl⟩) 0 rfl rfl _ rg_C rg_n rfl rfl (Nat.le_of_ble_eq_true rfl) ⟨Nat.zero_le _, Nat.zero_le _⟩ dX3_refuseLong_5) (wC g b y ((f_X3_refuse S p0).2)) (rg_put (wC_len.trans wC_len.symm)) (rg_len (wC_len.trans wC_len.symm)) 8 rfl ?_
  refine g_i2l C dX3_refuseLong_8 9 rfl ?_
  refine g_lsub C dX3_refuseLong_9 10 rfl ?_
  subst hR
  exact g_lret C hr hlocks hA (by first | (dsimp only; done) | rfl) (by first | (dsimp only; done) | rfl) dX3_refuseLong_10
theorem hd_X3_letterAt : yX3_letterAt.cls = RX3 ∧ yX3_letterAt.cls ≠ "java/lang/invoke/MethodHandle" ∧ yX3_letterAt.cls ≠ "java/lang/invoke/VarHandle" ∧ (parseMethodDescriptor yX3_letterAt.desc).map (fun d => d.parameters.length) = some 1 := by decide +kernel
def f_X3_letterAt (S : (Nat → Nat → Int32) × (Nat → Nat → Int64)) (p0 : Int32) : Int32 :=
  (f_X3_at (S.1 31) 96 p0)
set_option maxRecDepth 100000 in
set_option maxHeartbeats 4000000 in
theorem k_X3_letterAt (l : Launch) (g : gE) (b : Nat → Nat) (y : Nat → Nat → Nat) (S : (Nat → Nat → Int32) × (Nat → Nat → Int64)) (p0 : Int32) : FnI l g yX3_letterAt wA_X3_letterAt { frames := 1, cells := 0, slots := 0, locals := 21 } [.ref (b 0), .int p0] (wC g b y S) (f_X3_letterAt S p0) (wC g b y S) := by
  generalize hR : f_X3_letterAt S p0 = R_
  refine fEntry (As := [.ref (b 0), .int p0]) (maxL := 2) (ret := (some .int)) (by decide) rfl [some (.ref (b 0)), some (.int p0)] (Nat.le_of_ble_eq_true rfl) (lvInB.to (lvInB.sm (lvInB.sm lvInB.nil))) ?_
  intro p e s m below meth c A C hr hlocks hname hA
  have C : Cx p s m _ c g A cX3_letterAt 2 wA_X3_letterAt RX3 := C
  rw [f_X3_letterAt] at hR
  refine g_aload_n C dX3_letterAt_0 rfl 1 rfl ?_
  refine g_get (v := .ref (b 19)) C (hiC hiA_3) 0 rfl rfl 4 (by decide) (List.mem_cons_of_mem _ wl_20) rfl rfl dX3_letterAt_1 4 rfl ?_
  refine g_iload_n C dX3_letterAt_4 rfl 5 rfl ?_
  refine g_callIR C (rn_S C (k_X3_at l g (b 19) (S.1 31) 96 p0 (by decide)) (va_cwS 2 C.1.2.2.2.2 (gdS wl_130 wl_128 wl_129 wl_2) rfl rfl rfl hd_X3_at.2 ⟨Nat.le_of_ble_eq_true rfl, Nat.le_of_ble_eq_true rfl⟩) [34] rfl rfl rfl rfl (Nat.le_of_ble_eq_true rfl) ⟨Nat.zero_le _, Nat.zero_le _⟩ dX3_letterAt_5) 8 rfl ?_
  subst hR
  exact g_iret C hr hlocks hA (by first | (dsimp only; done) | rfl) (by first | (dsimp only; done) | rfl) dX3_letterAt_8
theorem hd_X3_digitAt : yX3_digitAt.cls = RX3 ∧ yX3_digitAt.cls ≠ "java/lang/invoke/MethodHandle" ∧ yX3_digitAt.cls ≠ "java/lang/invoke/VarHandle" ∧ (parseMethodDescriptor yX3_digitAt.desc).map (fun d => d.parameters.length) = some 1 := by decide +kernel
def f_X3_digitAt (S : (Nat → Nat → Int32) × (Nat → Nat → Int64)) (p0 : Int32) : Int32 :=
  ((f_X3_letterAt S p0) - 48)
set_option maxRecDepth 100000 in
set_option maxHeartbeats 4000000 in
theorem k_X3_digitAt (l : Launch) (g : gE) (b : Nat → Nat) (y : Nat → Nat → Nat) (S : (Nat → Nat → Int32) × (Nat → Nat → Int64)) (p0 : Int32) : FnI l g yX3_digitAt wA_X3_digitAt { frames := 2, cells := 0, slots := 0, locals := 42 } [.ref (b 0), .int p0] (wC g b y S) (f_X3_digitAt S p0) (wC g b y S) := by
  generalize hR : f_X3_digitAt S p0 = R_
  refine fEntry (As := [.ref (b 0), .int p0]) (maxL := 2) (ret := (some .int)) (by decide) rfl [some (.ref (b 0)), some (.int p0)] (Nat.le_of_ble_eq_true rfl) (lvInB.to (lvInB.sm (lvInB.sm lvInB.nil))) ?_
  intro p e s m below meth c A C hr hlocks hname hA
  have C : Cx p s m _ c g A cX3_digitAt 2 wA_X3_digitAt RX3 := C
  rw [f_X3_digitAt] at hR
  refine g_aload_n C dX3_digitAt_0 rfl 1 rfl ?_
  refine g_iload_n C dX3_digitAt_1 rfl 2 rfl ?_
  refine g_callIR C (rn_V C (k_X3_letterAt l g b y S p0) (cwV 1 C.1.2.2.2.2 (gdV wl_127 wl_124 wl_125 wl_126 wl_2) rfl rfl rfl hd_X3_letterAt ⟨Nat.le_of_ble_eq_true rfl, Nat.le_of_ble_eq_true rfl⟩) 0 rfl rfl _ rg_C rg_n rfl rfl (Nat.le_of_ble_eq_true rfl) ⟨Nat.zero_le _, Nat.zero_le _⟩ dX3_digitAt_2) 5 rfl ?_
  refine g_bipush C dX3_digitAt_5 48 bp_48 7 rfl ?_
  refine g_isub C dX3_digitAt_7 8 rfl ?_
  subst hR
  exact g_iret C hr hlocks hA (by first | (dsimp only; done) | rfl) (by first | (dsimp only; done) | rfl) dX3_digitAt_8
theorem hd_X3_twoDigitsAt : yX3_twoDigitsAt.cls = RX3 ∧ yX3_twoDigitsAt.cls ≠ "java/lang/invoke/MethodHandle" ∧ yX3_twoDigitsAt.cls ≠ "java/lang/invoke/VarHandle" ∧ (parseMethodDescriptor yX3_twoDigitsAt.desc).map (fun d => d.parameters.length) = some 1 := by decide +kernel
def f_X3_twoDigitsAt (S : (Nat → Nat → Int32) × (Nat → Nat → Int64)) (p0 : Int32) : Int32 :=
  ((10 * (f_X3_digitAt S p0)) + (f_X3_digitAt S (p0 + 1)))
set_option maxRecDepth 100000 in
set_option maxHeartbeats 4000000 in
theorem k_X3_twoDigitsAt (l : Launch) (g : gE) (b : Nat → Nat) (y : Nat → Nat → Nat) (S : (Nat → Nat → Int32) × (Nat → Nat → Int64)) (p0 : Int32) : FnI l g yX3_twoDigitsAt wA_X3_twoDigitsAt { frames := 3, cells := 0, slots := 0, locals := 63 } [.ref (b 0), .int p0] (wC g b y S) (f_X3_twoDigitsAt S p0) (wC g b y S) := by
  generalize hR : f_X3_twoDigitsAt S p0 = R_
  refine fEntry (As := [.ref (b 0), .int p0]) (maxL := 2) (ret := (some .int)) (by decide) rfl [some (.ref (b 0)), some (.int p0)] (Nat.le_of_ble_eq_true rfl) (lvInB.to (lvInB.sm (lvInB.sm lvInB.nil))) ?_
  intro p e s m below meth c A C hr hlocks hname hA
  have C : Cx p s m _ c g A cX3_twoDigitsAt 2 wA_X3_twoDigitsAt RX3 := C
  rw [f_X3_twoDigitsAt] at hR
  refine g_bipush C dX3_twoDigitsAt_0 10 bp_10 2 rfl ?_
  refine g_aload_n C dX3_twoDigitsAt_2 rfl 3 rfl ?_
  refine g_iload_n C dX3_twoDigitsAt_3 rfl 4 rfl ?_
  refine g_callIR C (rn_V C (k_X3_digitAt l g b y S p0) (cwV 1 C.1.2.2.2.2 (gdV wl_161 wl_158 wl_159 wl_160 wl_2) rfl rfl rfl hd_X3_digitAt ⟨Nat.le_of_ble_eq_true rfl, Nat.le_of_ble_eq_true rfl⟩) 0 rfl rfl _ rg_C rg_n rfl rfl (Nat.le_of_ble_eq_true rfl) ⟨Nat.zero_le _, Nat.zero_le _⟩ dX3_twoDigitsAt_4) 7 rfl ?_
  refine g_imul C dX3_twoDigitsAt_7 8 rfl ?_
  refine g_aload_n C dX3_twoDigitsAt_8 rfl 9 rfl ?_
  refine g_iload_n C dX3_twoDigitsAt_9 rfl 10 rfl ?_
  refine g_iconst C dX3_twoDigitsAt_10 1 ic_1 11 rfl ?_
  refine g_iadd C dX3_twoDigitsAt_11 12 rfl ?_
  refine g_callIR C (rn_V C (k_X3_digitAt l g b y S (p0 + 1)) (cwV 1 C.1.2.2.2.2 (gdV wl_161 wl_158 wl_159 wl_160 wl_2) rfl rfl rfl hd_X3_digitAt ⟨Nat.le_of_ble_eq_true rfl, Nat.le_of_ble_eq_true rfl⟩) 0 rfl rfl _ rg_C rg_n rfl rfl (Nat.le_of_ble_eq_true rfl) ⟨Nat.zero_le _, Nat.zero_le _⟩ dX3_twoDigitsAt_12) 15 rfl ?_
  refine g_iadd C dX3_twoDigitsAt_15 16 rfl ?_
  subst hR
  exact g_iret C hr hlocks hA (by first | (dsimp only; done) | rfl) (by first | (dsimp only; done) | rfl) dX3_twoDigitsAt_16
theorem hd_X3_harmSum : yX3_harmSum.cls = RX3 ∧ yX3_harmSum.cls ≠ "java/lang/invoke/MethodHandle" ∧ yX3_harmSum.cls ≠ "java/lang/invoke/VarHandle" ∧ (parseMethodDescriptor yX3_harmSum.desc).map (fun d => d.parameters.length) = some 2 := by decide +kernel
def f_X3_harmSum_L5 (x0 : Int32) (F : Nat → Int64) (N_ : Nat) : Nat → Int64 → Int32 → Option (Int64 × Int32)
  | 0, _, _ => none
  | n_ + 1, x2, x4 =>
    if 5 ≤ x4 then
      some (x2, x4)
    else
      if (f_X3_harmOf x0 x4) ≤ 0 then
        f_X3_harmSum_L5 x0 F N_ n_ x2 (x4 + 1)
      else
        (f_X2_sumOf F x4 x4 N_).bind fun v3 =>
        f_X3_harmSum_L5 x0 F N_ n_ (x2 + v3) (x4 + 1)
set_option maxRecDepth 100000 in
set_option maxHeartbeats 4000000 in
theorem k_X3_harmSum_L5 (l : Launch) (g : gE) {p : Program} {e : Env} {s : State} {m : MethodId} {args : Array Value} {below : List Frame} {meth : Method} {c : Code} {Q : State → Prop} {A : Nat → Prop} {h0 : Nat} {h1 : Nat}  (C : Cx p s m args c g A cX3_harmSum 5 wA_X3_harmSum RX3) (N_ : Nat) (x0 : Int32) (F : Nat → Int64) : ∀ (n_ : Nat) (x2 : Int64) (x4 : Int32) (rv_ : Int64 × Int32), f_X3_harmSum_L5 x0 F N_ n_ x2 x4 = some rv_ → (Gm p l e (headSpec wA_X3_harmSum ({ frames := 2, cells := 0, slots := 0, locals := 42 } : Room)).room s m args below meth c Q g A 5 0 0 ([(h0, .inr (2, [.ref h1])), (h1, .inl (g.2.1 1, 5, .inr (.inl F)))]) [some (.int x0), some (.ref h0), some (.long rv_.1), none, some (.int rv_.2)] [] 37) → Gm p l e (headSpec wA_X3_harmSum ({ frames := 2, cells := 0, slots := 0, locals := 42 } : Room)).room s m args below meth c Q g A 5 0 0 ([(h0, .inr (2, [.ref h1])), (h1, .inl (g.2.1 1, 5, .inr (.inl F)))]) [some (.int x0), some (.ref h0), some (.long x2), none, some (.int x4)] [] 5 := by
  intro n_
  induction n_ with
  | zero =>
    intro x2 x4 rv_ hR
    simp [f_X3_harmSum_L5] at hR
  | succ n_ ih =>
    intro x2 x4 rv_ hR hk
    rw [f_X3_harmSum_L5] at hR
    refine g_iload C dX3_harmSum_5 rfl 7 rfl ?_
    refine g_iconst C dX3_harmSum_7 5 ic_5 8 rfl ?_
    refine g_icmp_ge C dX3_harmSum_8 hR 37 11 (by decide) rfl (fun c_8 hR => ?_) (fun c_8 hR => ?_)
    · obtain rfl := Option.some.inj hR
      refine g_lv [some (.int x0), some (.ref h0), some (.long x2), none, some (.int x4)] (lvLe.sm (lvLe.sm (lvLe.sm (lvLe.nn (lvLe.sm lvLe.nil))))) ?_
      exact hk
    · refine g_iload_n C dX3_harmSum_11 rfl 12 rfl ?_
      refine g_iload C dX3_harmSum_12 rfl 14 rfl ?_
      refine g_callIR C (rn_S C (k_X3_harmOf l g x0 x4) (va_cwS 2 C.1.2.2.2.2 (gdS wl_572 wl_570 wl_571 wl_2) rfl rfl rfl hd_X3_harmOf.2 ⟨Nat.le_of_ble_eq_true rfl, Nat.le_of_ble_eq_true rfl⟩) [] rfl rfl rfl rfl (Nat.le_of_ble_eq_true rfl) ⟨Nat.zero_le _, Nat.zero_le _⟩ dX3_harmSum_14) 17 rfl ?_
      refine g_if_le C dX3_harmSum_17 hR 31 20 (by decide) rfl (fun c_17 hR => ?_) (fun c_17 hR => ?_)
      · refine g_iinc C dX3_harmSum_31 rfl 1 ic_1 [_, _, _, _, _] (Nat.le_of_ble_eq_true rfl) rfl rfl 34 rfl ?_
        refine g_goto C dX3_harmSum_34 5 (by decide) ?_
        refine g_lv [some (.int x0), some (.ref h0), some (.long x2), none, some (.int (x4 + 1))] (lvLe.sm (lvLe.sm (lvLe.sm (lvLe.nn (lvLe.sm lvLe.nil))))) ?_
        exact ih _ _ rv_ hR hk
      · refine g_lload_n C dX3_harmSum_20 rfl 21 rfl ?_
        refine g_aload_n C dX3_harmSum_21 rfl 22 rfl ?_
        refine g_iload C dX3_harmSum_22 rfl 24 rfl ?_
        refine g_iload C dX3_harmSum_24 rfl 26 rfl ?_
        obtain ⟨v3, hv3, hR⟩ := opt_b hR
        refine g_callLR C (rn_VN C (k_X2_sumOf l g h0 h1 F x4 x4 N_ v3 hv3) ⟨va_cnB 2 C.1.2.2.2.2 (gdA wl_427) rfl rfl rfl (nst C (List.mem_of_getElem? (i := 17) rfl)) (C.1.2.2.2.2 _ (List.mem_cons_of_mem _ wl_32)) hd_X2_sumOf.2 ⟨Nat.le_of_ble_eq_true rfl, Nat.le_of_ble_eq_true rfl⟩, C.1.2.2.2.2 _ (List.mem_cons_of_mem _ wl_425), C.1.2.2.2.2 _ (List.mem_cons_of_mem _ wl_426)⟩ 0 rfl rfl [0, 1] rfl rfl rfl rfl (Nat.le_of_ble_eq_true rfl) ⟨Nat.zero_le _, Nat.zero_le _⟩ dX3_harmSum_26) 29 rfl ?_
        refine g_ladd C dX3_harmSum_29 30 rfl ?_
        refine g_lstore_n C dX3_harmSum_30 [_, _, _, _, _] (Nat.le_of_ble_eq_true rfl) rfl rfl 31 rfl ?_
        refine g_iinc C dX3_harmSum_31 rfl 1 ic_1 [_, _, _, _, _] (Nat.le_of_ble_eq_true rfl) rfl rfl 34 rfl ?_
        refine g_goto C dX3_harmSum_34 5 (by decide) ?_
        refine g_lv [some (.int x0), some (.ref h0), some (.long (x2 + v3)), none, some (.int (x4 + 1))] (lvLe.sm (lvLe.sm (lvLe.sm (lvLe.nn (lvLe.sm lvLe.nil))))) ?_
        exact ih _ _ rv_ hR hk
def f_X3_harmSum (F : Nat → Int64) (p0 : Int32) (N_ : Nat) : Option (Int64) :=
  (f_X3_harmSum_L5 p0 F N_ N_ 0 0).bind fun v4 =>
  some v4.1
set_option maxRecDepth 100000 in
set_option maxHeartbeats 4000000 in
theorem k_X3_harmSum (l : Launch) (g : gE) (h0 : Nat) (h1 : Nat) (F : Nat → Int64) (p0 : Int32) (N_ : Nat) (R_ : Int64) (hR : f_X3_harmSum F p0 N_ = some R_) : FnL l g yX3_harmSum wA_X3_harmSum { frames := 2, cells := 0, slots := 0, locals := 42 } [.int p0, .ref h0] ([(h0, .inr (2, [.ref h1])), (h1, .inl (g.2.1 1, 5, .inr (.inl F)))]) R_ ([(h0, .inr (2, [.ref h1])), (h1, .inl (g.2.1 1, 5, .inr (.inl F)))]) := by
  refine fEntry (As := [.int p0, .ref h0]) (maxL := 5) (ret := (some .long)) (by decide) rfl [some (.int p0), some (.ref h0), none, none, none] (Nat.le_of_ble_eq_true rfl) (lvInB.to (lvInB.sm (lvInB.sm (lvInB.nn (lvInB.nn (lvInB.nn lvInB.nil)))))) ?_
  intro p e s m below meth c A C hr hlocks hname hA
  have C : Cx p s m _ c g A cX3_harmSum 5 wA_X3_harmSum RX3 := C
  rw [f_X3_harmSum] at hR
  refine g_lconst C dX3_harmSum_0 0 (by decide) 1 rfl ?_
  refine g_lstore_n C dX3_harmSum_1 [_, _, _, _, _] (Nat.le_of_ble_eq_true rfl) rfl rfl 2 rfl ?_
  refine g_iconst C dX3_harmSum_2 0 ic_0 3 rfl ?_
  refine g_istore C dX3_harmSum_3 [_, _, _, _, _] (Nat.le_of_ble_eq_true rfl) rfl rfl 5 rfl ?_
  refine g_lv [some (.int p0), some (.ref h0), some (.long 0), none, some (.int 0)] (lvLe.sm (lvLe.sm (lvLe.sm (lvLe.nn (lvLe.sm lvLe.nil))))) ?_
  obtain ⟨v4, hv4, hR⟩ := opt_b hR
  refine k_X3_harmSum_L5 l g C N_ p0 F N_ 0 0 _ hv4 ?_
  refine g_lload_n C dX3_harmSum_37 rfl 38 rfl ?_
  obtain rfl := Option.some.inj hR
  exact g_lret C hr hlocks hA (by first | (dsimp only; done) | rfl) (by first | (dsimp only; done) | rfl) dX3_harmSum_38
theorem hd_X3_think : yX3_think.cls = RX3 ∧ yX3_think.cls ≠ "java/lang/invoke/MethodHandle" ∧ yX3_think.cls ≠ "java/lang/invoke/VarHandle" ∧ (parseMethodDescriptor yX3_think.desc).map (fun d => d.parameters.length) = some 0 := by decide +kernel
def f_X3_think_L33  (N_ : Nat) : Nat → Int32 → ((Nat → Nat → Int32) × (Nat → Nat → Int64)) → Option (Int32 × ((Nat → Nat → Int32) × (Nat → Nat → Int64)))
  | 0, _, _ => none
  | n_ + 1, x2, S =>
    if (S.1 0 2) ≤ x2 then
      some (x2, S)
    else
      (f_X2_narrow_s (S.2 0) (S.1 34 0) (f_X3_at (S.1 1) 8 x2) (f_X3_at (S.1 2) 8 x2) N_).bind fun v4 =>
      f_X3_think_L33 N_ n_ (x2 + 1) (S.1, (kLS S.2 0 v4))
set_option maxRecDepth 100000 in
set_option maxHeartbeats 4000000 in
theorem k_X3_think_L33 (l : Launch) (g : gE) {p : Program} {e : Env} {s : State} {m : MethodId} {args : Array Value} {below : List Frame} {meth : Method} {c : Code} {Q : State → Prop} {A : Nat → Prop} {b : Nat → Nat}  (C : Cx p s m args c g A cX3_think 3 wA_X3_think RX3) (N_ : Nat) (y : Nat → Nat → Nat) : ∀ (n_ : Nat) (x2 : Int32) (S : (Nat → Nat → Int32) × (Nat → Nat → Int64)) (rv_ : Int32 × ((Nat → Nat → Int32) × (Nat → Nat → Int64))), f_X3_think_L33 N_ n_ x2 S = some rv_ → (Gm p l e (headSpec wA_X3_think ({ frames := 4, cells := 0, slots := 0, locals := 85 } : Room)).room s m args below meth c Q g A 3 0 0 (wC g b y rv_.2) [some (.ref (b 0)), none, some (.int rv_.1)] [] 87) → Gm p l e (headSpec wA_X3_think ({ frames := 4, cells := 0, slots := 0, locals := 85 } : Room)).room s m args below meth c Q g A 3 0 0 (wC g b y S) [some (.ref (b 0)), none, some (.int x2)] [] 33 := by
  intro n_
  induction n_ with
  | zero =>
    intro x2 S rv_ hR
    simp [f_X3_think_L33] at hR
  | succ n_ ih =>
    intro x2 S rv_ hR hk
    rw [f_X3_think_L33] at hR
    refine g_iload_n C dX3_think_33 rfl 34 rfl ?_
    refine g_aload_n C dX3_think_34 rfl 35 rfl ?_
    refine g_get (v := .ref (b 1)) C (hiC hiA_3) 0 rfl rfl 0 (by decide) (List.mem_cons_of_mem _ wl_15) rfl rfl dX3_think_35 38 rfl ?_
    refine g_getN (v := .int (S.1 0 2)) C (hiC hiA_1) 1 rfl rfl 5 (by decide) (List.mem_of_getElem? (i := 6) rfl) rfl rfl dX3_think_38 41 rfl ?_
    refine g_icmp_ge C dX3_think_41 hR 87 44 (by decide) rfl (fun c_41 hR => ?_) (fun c_41 hR => ?_)
    · obtain rfl := Option.some.inj hR
      refine g_lv [some (.ref (b 0)), none, some (.int x2)] (lvLe.sm (lvLe.nn (lvLe.sm lvLe.nil))) ?_
      exact hk
    · refine g_aload_n C dX3_think_44 rfl 45 rfl ?_
      refine g_get (v := .ref (b 24)) C (hiC hiA_3) 0 rfl rfl 11 (by decide) (List.mem_cons_of_mem _ wl_33) rfl rfl dX3_think_45 48 rfl ?_
      refine g_aload_n C dX3_think_48 rfl 49 rfl ?_
      refine g_get (v := .ref (b 24)) C (hiC hiA_3) 0 rfl rfl 11 (by decide) (List.mem_cons_of_mem _ wl_33) rfl rfl dX3_think_49 52 rfl ?_
      refine g_aload_n C dX3_think_52 rfl 53 rfl ?_
      refine g_get (v := .ref (b 22)) C (hiC hiA_3) 0 rfl rfl 9 (by decide) (List.mem_cons_of_mem _ wl_28) rfl rfl dX3_think_53 56 rfl ?_
      refine g_aload_n C dX3_think_56 rfl 57 rfl ?_
      refine g_get (v := .ref (b 1)) C (hiC hiA_3) 0 rfl rfl 0 (by decide) (List.mem_cons_of_mem _ wl_15) rfl rfl dX3_think_57 60 rfl ?_
      refine g_getN (v := .ref (b 3)) C (hiC hiA_1) 1 rfl rfl 3 (by decide) (List.mem_of_getElem? (i := 7) rfl) rfl rfl dX3_think_60 63 rfl ?_
      refine g_iload_n C dX3_think_63 rfl 64 rfl ?_
      refine g_callIR C (rn_S C (k_X3_at l g (b 3) (S.1 1) 8 x2 (by decide)) (va_cwS 2 C.1.2.2.2.2 (gdS wl_130 wl_128 wl_129 wl_2) rfl rfl rfl hd_X3_at.2 ⟨Nat.le_of_ble_eq_true rfl, Nat.le_of_ble_eq_true rfl⟩) [3] rfl rfl rfl rfl (Nat.le_of_ble_eq_true rfl) ⟨Nat.zero_le _, Nat.zero_le _⟩ dX3_think_64) 67 rfl ?_
      refine g_aload_n C dX3_think_67 rfl 68 rfl ?_
      refine g_get (v := .ref (b 1)) C (hiC hiA_3) 0 rfl rfl 0 (by decide) (List.mem_cons_of_mem _ wl_15) rfl rfl dX3_think_68 71 rfl ?_
      refine g_getN (v := .ref (b 4)) C (hiC hiA_1) 1 rfl rfl 4 (by decide) (List.mem_of_getElem? (i := 8) rfl) rfl rfl dX3_think_71 74 rfl ?_
      refine g_iload_n C dX3_think_74 rfl 75 rfl ?_
      refine g_callIR C (rn_S C (k_X3_at l g (b 4) (S.1 2) 8 x2 (by decide)) (va_cwS 2 C.1.2.2.2.2 (gdS wl_130 wl_128 wl_129 wl_2) rfl rfl rfl hd_X3_at.2 ⟨Nat.le_of_ble_eq_true rfl, Nat.le_of_ble_eq_true rfl⟩) [4] rfl rfl rfl rfl (Nat.le_of_ble_eq_true rfl) ⟨Nat.zero_le _, Nat.zero_le _⟩ dX3_think_75) 78 rfl ?_
      obtain ⟨v4, hv4, hR⟩ := opt_b hR
      refine g_callV C (rn_VN C (k_X2_narrow_s l g (b 24) (b 27) (b 22) (S.2 0) (S.1 34 0) (S.1 34 1) (S.1 34 2) (S.1 34 3) (f_X3_at (S.1 1) 8 x2) (f_X3_at (S.1 2) 8 x2) N_ v4 hv4) ⟨va_cnB 4 C.1.2.2.2.2 (gdA wl_417) rfl rfl rfl (nst C (List.mem_of_getElem? (i := 23) rfl)) (C.1.2.2.2.2 _ (List.mem_cons_of_mem _ wl_32)) hd_X2_narrow.2 ⟨Nat.le_of_ble_eq_true rfl, Nat.le_of_ble_eq_true rfl⟩, C.1.2.2.2.2 _ (List.mem_cons_of_mem _ wl_415), C.1.2.2.2.2 _ (List.mem_cons_of_mem _ wl_416)⟩ 39 rfl rfl [39, 42, 37] rfl rfl rfl rfl (Nat.le_of_ble_eq_true rfl) ⟨Nat.zero_le _, Nat.zero_le _⟩ dX3_think_78) (wC g b y (S.1, (kLS S.2 0 v4))) rfl rfl 81 rfl ?_
      refine g_iinc C dX3_think_81 rfl 1 ic_1 [_, _, _] (Nat.le_of_ble_eq_true rfl) rfl rfl 84 rfl ?_
      refine g_goto C dX3_think_84 33 (by decide) ?_
      refine g_lv [some (.ref (b 0)), none, some (.int (x2 + 1))] (lvLe.sm (lvLe.nn (lvLe.sm lvLe.nil))) ?_
      exact ih _ _ rv_ hR hk
def f_X3_think (S : (Nat → Nat → Int32) × (Nat → Nat → Int64)) (N_ : Nat) : Option (((Nat → Nat → Int32) × (Nat → Nat → Int64))) :=
  if jIn (S.1 0 0) (S.1 0 1) then
    (f_X2_weigh (S.2 0) ((f_X0_fillFrom (S.1 5 (Int32.toNatClampNeg (S.1 0 1))) (S.1 6 (Int32.toNatClampNeg (S.1 0 1))) (S.1 7 (Int32.toNatClampNeg (S.1 0 1))) (S.1 8 (Int32.toNatClampNeg (S.1 0 1)))).1) ((f_X0_fillFrom (S.1 5 (Int32.toNatClampNeg (S.1 0 1))) (S.1 6 (Int32.toNatClampNeg (S.1 0 1))) (S.1 7 (Int32.toNatClampNeg (S.1 0 1))) (S.1 8 (Int32.toNatClampNeg (S.1 0 1)))).2.2.2) N_).bind fun v1 =>
    (f_X3_think_L33 N_ N_ 0 ((kS S.1 34 (upd (upd (upd (upd (S.1 34) 0 ((f_X0_fillFrom (S.1 5 (Int32.toNatClampNeg (S.1 0 1))) (S.1 6 (Int32.toNatClampNeg (S.1 0 1))) (S.1 7 (Int32.toNatClampNeg (S.1 0 1))) (S.1 8 (Int32.toNatClampNeg (S.1 0 1)))).1)) 1 ((f_X0_fillFrom (S.1 5 (Int32.toNatClampNeg (S.1 0 1))) (S.1 6 (Int32.toNatClampNeg (S.1 0 1))) (S.1 7 (Int32.toNatClampNeg (S.1 0 1))) (S.1 8 (Int32.toNatClampNeg (S.1 0 1)))).2.1)) 2 ((f_X0_fillFrom (S.1 5 (Int32.toNatClampNeg (S.1 0 1))) (S.1 6 (Int32.toNatClampNeg (S.1 0 1))) (S.1 7 (Int32.toNatClampNeg (S.1 0 1))) (S.1 8 (Int32.toNatClampNeg (S.1 0 1)))).2.2.1)) 3 ((f_X0_fillFrom (S.1 5 (Int32.toNatClampNeg (S.1 0 1))) (S.1 6 (Int32.toNatClampNeg (S.1 0 1))) (S.1 7 (Int32.toNatClampNeg (S.1 0 1))) (S.1 8 (Int32.toNatClampNeg (S.1 0 1)))).2.2.2))), (kLS S.2 0 v1))).bind fun v5 =>
    some v5.2
  else
    (f_X2_weigh (S.2 0) (S.1 34 0) (S.1 34 3) N_).bind fun v6 =>
    (f_X3_think_L33 N_ N_ 0 (S.1, (kLS S.2 0 v6))).bind fun v7 =>
    some v7.2
set_option maxRecDepth 100000 in
set_option maxHeartbeats 4000000 in
theorem k_X3_think (l : Launch) (g : gE) (b : Nat → Nat) (y : Nat → Nat → Nat) (S : (Nat → Nat → Int32) × (Nat → Nat → Int64)) (N_ : Nat) (R_ : ((Nat → Nat → Int32) × (Nat → Nat → Int64))) (hR : f_X3_think S N_ = some R_) : FnV l g yX3_think wA_X3_think { frames := 4, cells := 0, slots := 0, locals := 85 } [.ref (b 0)] (wC g b y S)  (wC g b y R_) := by
  refine fEntry (As := [.ref (b 0)]) (maxL := 3) (ret := none) (by decide) rfl [some (.ref (b 0)), none, none] (Nat.le_of_ble_eq_true rfl) (lvInB.to (lvInB.sm (lvInB.nn (lvInB.nn lvInB.nil)))) ?_
  intro p e s m below meth c A C hr hlocks hname hA
  have C : Cx p s m _ c g A cX3_think 3 wA_X3_think RX3 := C
  rw [f_X3_think] at hR
  refine g_aload_n C dX3_think_0 rfl 1 rfl ?_
  refine g_get (v := .ref (b 1)) C (hiC hiA_3) 0 rfl rfl 0 (by decide) (List.mem_cons_of_mem _ wl_15) rfl rfl dX3_think_1 4 rfl ?_
  refine g_callQR C (rn_VN C (k_X1_inHandq l g (b 1) (b 2) (b 3) (b 4) (b 5) (b 6) (S.1 0 0) (S.1 0 1) (S.1 0 2) (S.1 0 3) (S.1 0 4) (y 0)) ⟨va_cnB 0 C.1.2.2.2.2 (gdA wl_199) rfl rfl rfl (nst C (List.mem_of_getElem? (i := 14) rfl)) (C.1.2.2.2.2 _ (List.mem_cons_of_mem _ wl_14)) hd_X1_inHand.2 ⟨Nat.le_of_ble_eq_true rfl, Nat.le_of_ble_eq_true rfl⟩, C.1.2.2.2.2 _ (List.mem_cons_of_mem _ wl_197), C.1.2.2.2.2 _ (List.mem_cons_of_mem _ wl_198)⟩ 1 rfl rfl [1, 2] rfl rfl rfl rfl (Nat.le_of_ble_eq_true rfl) ⟨Nat.zero_le _, Nat.zero_le _⟩ dX3_think_4) hR 7 rfl (fun c_4 hR => ?_) (fun c_4 hR => ?_)
  · have hj_4 : (Int32.toNatClampNeg (S.1 0 1)) < 5 := jIn_lt c_4
    refine g_astore_n C dX3_think_7 [_, _, _] (Nat.le_of_ble_eq_true rfl) rfl rfl 8 rfl ?_
    refine g_aload_n C dX3_think_8 rfl 9 rfl ?_
    refine g_ifnull C dX3_think_9 12 rfl ?_
    refine g_aload_n C dX3_think_12 rfl 13 rfl ?_
    refine g_get (v := .ref (b 22)) C (hiC hiA_3) 0 rfl rfl 9 (by decide) (List.mem_cons_of_mem _ wl_28) rfl rfl dX3_think_13 16 rfl ?_
    refine g_aload_n C dX3_think_16 rfl 17 rfl ?_
    refine g_callV C (rn_VN C (k_X0_fillFrom l g (b 22) (y 0 (Int32.toNatClampNeg (S.1 0 1))) (S.1 34 0) (S.1 34 1) (S.1 34 2) (S.1 34 3) (S.1 5 (Int32.toNatClampNeg (S.1 0 1))) (S.1 6 (Int32.toNatClampNeg (S.1 0 1))) (S.1 7 (Int32.toNatClampNeg (S.1 0 1))) (S.1 8 (Int32.toNatClampNeg (S.1 0 1)))) ⟨va_cnB 1 C.1.2.2.2.2 (gdA wl_146) rfl rfl rfl (nst C (List.mem_of_getElem? (i := 21) rfl)) (C.1.2.2.2.2 _ (List.mem_cons_of_mem _ wl_27)) hd_X0_fillFrom.2 ⟨Nat.le_of_ble_eq_true rfl, Nat.le_of_ble_eq_true rfl⟩, C.1.2.2.2.2 _ (List.mem_cons_of_mem _ wl_144), C.1.2.2.2.2 _ (List.mem_cons_of_mem _ wl_145)⟩ 37 rfl rfl [37, 7 + (Int32.toNatClampNeg (S.1 0 1))] (hC_c rfl (hC_c (wC_jug hj_4) hC_n)) (nd_2 (by omega)) rfl rfl (Nat.le_of_ble_eq_true rfl) ⟨Nat.zero_le _, Nat.zero_le _⟩ dX3_think_17) (wC g b y ((kS S.1 34 (upd (upd (upd (upd (S.1 34) 0 ((f_X0_fillFrom (S.1 5 (Int32.toNatClampNeg (S.1 0 1))) (S.1 6 (Int32.toNatClampNeg (S.1 0 1))) (S.1 7 (Int32.toNatClampNeg (S.1 0 1))) (S.1 8 (Int32.toNatClampNeg (S.1 0 1)))).1)) 1 ((f_X0_fillFrom (S.1 5 (Int32.toNatClampNeg (S.1 0 1))) (S.1 6 (Int32.toNatClampNeg (S.1 0 1))) (S.1 7 (Int32.toNatClampNeg (S.1 0 1))) (S.1 8 (Int32.toNatClampNeg (S.1 0 1)))).2.1)) 2 ((f_X0_fillFrom (S.1 5 (Int32.toNatClampNeg (S.1 0 1))) (S.1 6 (Int32.toNatClampNeg (S.1 0 1))) (S.1 7 (Int32.toNatClampNeg (S.1 0 1))) (S.1 8 (Int32.toNatClampNeg (S.1 0 1)))).2.2.1)) 3 ((f_X0_fillFrom (S.1 5 (Int32.toNatClampNeg (S.1 0 1))) (S.1 6 (Int32.toNatClampNeg (S.1 0 1))) (S.1 7 (Int32.toNatClampNeg (S.1 0 1))) (S.1 8 (Int32.toNatClampNeg (S.1 0 1)))).2.2.2))), S.2)) (wC_jl2 (g := g) (b := b) (y := y) (S := ((kS S.1 34 (upd (upd (upd (upd (S.1 34) 0 ((f_X0_fillFrom (S.1 5 (Int32.toNatClampNeg (S.1 0 1))) (S.1 6 (Int32.toNatClampNeg (S.1 0 1))) (S.1 7 (Int32.toNatClampNeg (S.1 0 1))) (S.1 8 (Int32.toNatClampNeg (S.1 0 1)))).1)) 1 ((f_X0_fillFrom (S.1 5 (Int32.toNatClampNeg (S.1 0 1))) (S.1 6 (Int32.toNatClampNeg (S.1 0 1))) (S.1 7 (Int32.toNatClampNeg (S.1 0 1))) (S.1 8 (Int32.toNatClampNeg (S.1 0 1)))).2.1)) 2 ((f_X0_fillFrom (S.1 5 (Int32.toNatClampNeg (S.1 0 1))) (S.1 6 (Int32.toNatClampNeg (S.1 0 1))) (S.1 7 (Int32.toNatClampNeg (S.1 0 1))) (S.1 8 (Int32.toNatClampNeg (S.1 0 1)))).2.2.1)) 3 ((f_X0_fillFrom (S.1 5 (Int32.toNatClampNeg (S.1 0 1))) (S.1 6 (Int32.toNatClampNeg (S.1 0 1))) (S.1 7 (Int32.toNatClampNeg (S.1 0 1))) (S.1 8 (Int32.toNatClampNeg (S.1 0 1)))).2.2.2))), S.2)) hj_4 rfl) rfl 20 rfl ?_
    refine g_aload_n C dX3_think_20 rfl 21 rfl ?_
    refine g_get (v := .ref (b 24)) C (hiC hiA_3) 0 rfl rfl 11 (by decide) (List.mem_cons_of_mem _ wl_33) rfl rfl dX3_think_21 24 rfl ?_
    refine g_aload_n C dX3_think_24 rfl 25 rfl ?_
    refine g_get (v := .ref (b 22)) C (hiC hiA_3) 0 rfl rfl 9 (by decide) (List.mem_cons_of_mem _ wl_28) rfl rfl dX3_think_25 28 rfl ?_
    obtain ⟨v1, hv1, hR⟩ := opt_b hR
    refine g_callV C (rn_VN C (k_X2_weigh l g (b 24) (b 27) (b 22) (S.2 0) ((f_X0_fillFrom (S.1 5 (Int32.toNatClampNeg (S.1 0 1))) (S.1 6 (Int32.toNatClampNeg (S.1 0 1))) (S.1 7 (Int32.toNatClampNeg (S.1 0 1))) (S.1 8 (Int32.toNatClampNeg (S.1 0 1)))).1) ((f_X0_fillFrom (S.1 5 (Int32.toNatClampNeg (S.1 0 1))) (S.1 6 (Int32.toNatClampNeg (S.1 0 1))) (S.1 7 (Int32.toNatClampNeg (S.1 0 1))) (S.1 8 (Int32.toNatClampNeg (S.1 0 1)))).2.1) ((f_X0_fillFrom (S.1 5 (Int32.toNatClampNeg (S.1 0 1))) (S.1 6 (Int32.toNatClampNeg (S.1 0 1))) (S.1 7 (Int32.toNatClampNeg (S.1 0 1))) (S.1 8 (Int32.toNatClampNeg (S.1 0 1)))).2.2.1) ((f_X0_fillFrom (S.1 5 (Int32.toNatClampNeg (S.1 0 1))) (S.1 6 (Int32.toNatClampNeg (S.1 0 1))) (S.1 7 (Int32.toNatClampNeg (S.1 0 1))) (S.1 8 (Int32.toNatClampNeg (S.1 0 1)))).2.2.2) N_ v1 hv1) ⟨va_cnB 1 C.1.2.2.2.2 (gdA wl_406) rfl rfl rfl (nst C (List.mem_of_getElem? (i := 22) rfl)) (C.1.2.2.2.2 _ (List.mem_cons_of_mem _ wl_32)) hd_X2_weigh.2 ⟨Nat.le_of_ble_eq_true rfl, Nat.le_of_ble_eq_true rfl⟩, C.1.2.2.2.2 _ (List.mem_cons_of_mem _ wl_404), C.1.2.2.2.2 _ (List.mem_cons_of_mem _ wl_405)⟩ 39 rfl rfl [39, 42, 37] rfl rfl rfl rfl (Nat.le_of_ble_eq_true rfl) ⟨Nat.zero_le _, Nat.zero_le _⟩ dX3_think_28) (wC g b y ((kS S.1 34 (upd (upd (upd (upd (S.1 34) 0 ((f_X0_fillFrom (S.1 5 (Int32.toNatClampNeg (S.1 0 1))) (S.1 6 (Int32.toNatClampNeg (S.1 0 1))) (S.1 7 (Int32.toNatClampNeg (S.1 0 1))) (S.1 8 (Int32.toNatClampNeg (S.1 0 1)))).1)) 1 ((f_X0_fillFrom (S.1 5 (Int32.toNatClampNeg (S.1 0 1))) (S.1 6 (Int32.toNatClampNeg (S.1 0 1))) (S.1 7 (Int32.toNatClampNeg (S.1 0 1))) (S.1 8 (Int32.toNatClampNeg (S.1 0 1)))).2.1)) 2 ((f_X0_fillFrom (S.1 5 (Int32.toNatClampNeg (S.1 0 1))) (S.1 6 (Int32.toNatClampNeg (S.1 0 1))) (S.1 7 (Int32.toNatClampNeg (S.1 0 1))) (S.1 8 (Int32.toNatClampNeg (S.1 0 1)))).2.2.1)) 3 ((f_X0_fillFrom (S.1 5 (Int32.toNatClampNeg (S.1 0 1))) (S.1 6 (Int32.toNatClampNeg (S.1 0 1))) (S.1 7 (Int32.toNatClampNeg (S.1 0 1))) (S.1 8 (Int32.toNatClampNeg (S.1 0 1)))).2.2.2))), (kLS S.2 0 v1))) rfl rfl 31 rfl ?_
    refine g_iconst C dX3_think_31 0 ic_0 32 rfl ?_
    refine g_istore_n C dX3_think_32 [_, _, _] (Nat.le_of_ble_eq_true rfl) rfl rfl 33 rfl ?_
    refine g_lv [some (.ref (b 0)), none, some (.int 0)] (lvLe.sm (lvLe.nn (lvLe.sm lvLe.nil))) ?_
    obtain ⟨v5, hv5, hR⟩ := opt_b hR
    refine k_X3_think_L33 l g C N_ y N_ 0 ((kS S.1 34 (upd (upd (upd (upd (S.1 34) 0 ((f_X0_fillFrom (S.1 5 (Int32.toNatClampNeg (S.1 0 1))) (S.1 6 (Int32.toNatClampNeg (S.1 0 1))) (S.1 7 (Int32.toNatClampNeg (S.1 0 1))) (S.1 8 (Int32.toNatClampNeg (S.1 0 1)))).1)) 1 ((f_X0_fillFrom (S.1 5 (Int32.toNatClampNeg (S.1 0 1))) (S.1 6 (Int32.toNatClampNeg (S.1 0 1))) (S.1 7 (Int32.toNatClampNeg (S.1 0 1))) (S.1 8 (Int32.toNatClampNeg (S.1 0 1)))).2.1)) 2 ((f_X0_fillFrom (S.1 5 (Int32.toNatClampNeg (S.1 0 1))) (S.1 6 (Int32.toNatClampNeg (S.1 0 1))) (S.1 7 (Int32.toNatClampNeg (S.1 0 1))) (S.1 8 (Int32.toNatClampNeg (S.1 0 1)))).2.2.1)) 3 ((f_X0_fillFrom (S.1 5 (Int32.toNatClampNeg (S.1 0 1))) (S.1 6 (Int32.toNatClampNeg (S.1 0 1))) (S.1 7 (Int32.toNatClampNeg (S.1 0 1))) (S.1 8 (Int32.toNatClampNeg (S.1 0 1)))).2.2.2))), (kLS S.2 0 v1)) _ hv5 ?_
    obtain rfl := Option.some.inj hR
    exact g_vret C hr hlocks hA (by first | (dsimp only; done) | rfl) dX3_think_87
  · refine g_astore_nN C dX3_think_7 [_, _, _] (Nat.le_of_ble_eq_true rfl) rfl rfl 8 rfl ?_
    refine g_aload_nN C dX3_think_8 rfl 9 rfl ?_
    refine g_ifnullN C dX3_think_9 20 (by decide) ?_
    refine g_aload_n C dX3_think_20 rfl 21 rfl ?_
    refine g_get (v := .ref (b 24)) C (hiC hiA_3) 0 rfl rfl 11 (by decide) (List.mem_cons_of_mem _ wl_33) rfl rfl dX3_think_21 24 rfl ?_
    refine g_aload_n C dX3_think_24 rfl 25 rfl ?_
    refine g_get (v := .ref (b 22)) C (hiC hiA_3) 0 rfl rfl 9 (by decide) (List.mem_cons_of_mem _ wl_28) rfl rfl dX3_think_25 28 rfl ?_
    obtain ⟨v6, hv6, hR⟩ := opt_b hR
    refine g_callV C (rn_VN C (k_X2_weigh l g (b 24) (b 27) (b 22) (S.2 0) (S.1 34 0) (S.1 34 1) (S.1 34 2) (S.1 34 3) N_ v6 hv6) ⟨va_cnB 1 C.1.2.2.2.2 (gdA wl_406) rfl rfl rfl (nst C (List.mem_of_getElem? (i := 22) rfl)) (C.1.2.2.2.2 _ (List.mem_cons_of_mem _ wl_32)) hd_X2_weigh.2 ⟨Nat.le_of_ble_eq_true rfl, Nat.le_of_ble_eq_true rfl⟩, C.1.2.2.2.2 _ (List.mem_cons_of_mem _ wl_404), C.1.2.2.2.2 _ (List.mem_cons_of_mem _ wl_405)⟩ 39 rfl rfl [39, 42, 37] rfl rfl rfl rfl (Nat.le_of_ble_eq_true rfl) ⟨Nat.zero_le _, Nat.zero_le _⟩ dX3_think_28) (wC g b y (S.1, (kLS S.2 0 v6))) rfl rfl 31 rfl ?_
    refine g_iconst C dX3_think_31 0 ic_0 32 rfl ?_
    refine g_istore_n C dX3_think_32 [_, _, _] (Nat.le_of_ble_eq_true rfl) rfl rfl 33 rfl ?_
    refine g_lv [some (.ref (b 0)), none, some (.int 0)] (lvLe.sm (lvLe.nn (lvLe.sm lvLe.nil))) ?_
    obtain ⟨v7, hv7, hR⟩ := opt_b hR
    refine k_X3_think_L33 l g C N_ y N_ 0 (S.1, (kLS S.2 0 v6)) _ hv7 ?_
    obtain rfl := Option.some.inj hR
    exact g_vret C hr hlocks hA (by first | (dsimp only; done) | rfl) dX3_think_87
theorem hd_X3_testWorth : yX3_testWorth.cls = RX3 ∧ yX3_testWorth.cls ≠ "java/lang/invoke/MethodHandle" ∧ yX3_testWorth.cls ≠ "java/lang/invoke/VarHandle" ∧ (parseMethodDescriptor yX3_testWorth.desc).map (fun d => d.parameters.length) = some 3 := by decide +kernel
def f_X3_testWorth_0_L26 (x1 : Int32) (x2 : Int32) (N_ : Nat) : Nat → Int64 → Int32 → ((Nat → Nat → Int32) × (Nat → Nat → Int64)) → Option (Int64 × Int32 × ((Nat → Nat → Int32) × (Nat → Nat → Int64)))
  | 0, _, _, _ => none
  | n_ + 1, x4, x6, S =>
    if 1 < x6 then
      some (x4, x6, S)
    else
      (f_X2_narrow (S.2 2) (S.2 0) (S.1 34 0) x1 x6 N_).bind fun v6 =>
      (f_X1_bestSum (S.1 0 3) v6 x2 N_).bind fun v7 =>
      f_X3_testWorth_0_L26 x1 x2 N_ n_ (x4 + ((Int32.toInt64 (S.1 34 2)) * v7)) (x6 + 1) (S.1, (kLS S.2 2 v6))
set_option maxRecDepth 100000 in
set_option maxHeartbeats 4000000 in
theorem k_X3_testWorth_0_L26 (l : Launch) (g : gE) {p : Program} {e : Env} {s : State} {m : MethodId} {args : Array Value} {below : List Frame} {meth : Method} {c : Code} {Q : State → Prop} {A : Nat → Prop} {b : Nat → Nat}  (C : Cx p s m args c g A cX3_testWorth 7 wA_X3_testWorth RX3) (N_ : Nat) (x1 : Int32) (x2 : Int32) (y : Nat → Nat → Nat) : ∀ (n_ : Nat) (x4 : Int64) (x6 : Int32) (S : (Nat → Nat → Int32) × (Nat → Nat → Int64)) (rv_ : Int64 × Int32 × ((Nat → Nat → Int32) × (Nat → Nat → Int64))), f_X3_testWorth_0_L26 x1 x2 N_ n_ x4 x6 S = some rv_ → (Gm p l e (headSpec wA_X3_testWorth ({ frames := 4, cells := 0, slots := 0, locals := 97 } : Room)).room s m args below meth c Q g A 7 0 0 (wC g b y rv_.2.2) [some (.ref (b 0)), some (.int x1), some (.int x2), some (.ref (b 24)), some (.long rv_.1), none, some (.int rv_.2.1)] [] 79) → Gm p l e (headSpec wA_X3_testWorth ({ frames := 4, cells := 0, slots := 0, locals := 97 } : Room)).room s m args below meth c Q g A 7 0 0 (wC g b y S) [some (.ref (b 0)), some (.int x1), some (.int x2), some (.ref (b 24)), some (.long x4), none, some (.int x6)] [] 26 := by
  intro n_
  induction n_ with
  | zero =>
    intro x4 x6 S rv_ hR
    simp [f_X3_testWorth_0_L26] at hR
  | succ n_ ih =>
    intro x4 x6 S rv_ hR hk
    rw [f_X3_testWorth_0_L26] at hR
    refine g_iload C dX3_testWorth_26 rfl 28 rfl ?_
    refine g_iconst C dX3_testWorth_28 1 ic_1 29 rfl ?_
    refine g_icmp_gt C dX3_testWorth_29 hR 79 32 (by decide) rfl (fun c_29 hR => ?_) (fun c_29 hR => ?_)
    · obtain rfl := Option.some.inj hR
      refine g_lv [some (.ref (b 0)), some (.int x1), some (.int x2), some (.ref (b 24)), some (.long x4), none, some (.int x6)] (lvLe.sm (lvLe.sm (lvLe.sm (lvLe.sm (lvLe.sm (lvLe.nn (lvLe.sm lvLe.nil))))))) ?_
      exact hk
    · refine g_aload_n C dX3_testWorth_32 rfl 33 rfl ?_
      refine g_get (v := .ref (b 26)) C (hiC hiA_3) 0 rfl rfl 13 (by decide) (List.mem_cons_of_mem _ wl_35) rfl rfl dX3_testWorth_33 36 rfl ?_
      refine g_aload_n C dX3_testWorth_36 rfl 37 rfl ?_
      refine g_aload_n C dX3_testWorth_37 rfl 38 rfl ?_
      refine g_get (v := .ref (b 22)) C (hiC hiA_3) 0 rfl rfl 9 (by decide) (List.mem_cons_of_mem _ wl_28) rfl rfl dX3_testWorth_38 41 rfl ?_
      refine g_iload_n C dX3_testWorth_41 rfl 42 rfl ?_
      refine g_iload C dX3_testWorth_42 rfl 44 rfl ?_
      obtain ⟨v6, hv6, hR⟩ := opt_b hR
      refine g_callV C (rn_VN C (k_X2_narrow l g (b 26) (b 29) (b 22) (b 24) (b 27) (S.2 2) (S.2 0) (S.1 34 0) (S.1 34 1) (S.1 34 2) (S.1 34 3) x1 x6 N_ v6 hv6) ⟨va_cnB 4 C.1.2.2.2.2 (gdA wl_417) rfl rfl rfl (nst C (List.mem_of_getElem? (i := 23) rfl)) (C.1.2.2.2.2 _ (List.mem_cons_of_mem _ wl_32)) hd_X2_narrow.2 ⟨Nat.le_of_ble_eq_true rfl, Nat.le_of_ble_eq_true rfl⟩, C.1.2.2.2.2 _ (List.mem_cons_of_mem _ wl_415), C.1.2.2.2.2 _ (List.mem_cons_of_mem _ wl_416)⟩ 41 rfl rfl [41, 44, 39, 42, 37] rfl rfl rfl rfl (Nat.le_of_ble_eq_true rfl) ⟨Nat.zero_le _, Nat.zero_le _⟩ dX3_testWorth_44) (wC g b y (S.1, (kLS S.2 2 v6))) rfl rfl 47 rfl ?_
      refine g_lload C dX3_testWorth_47 rfl 49 rfl ?_
      refine g_aload_n C dX3_testWorth_49 rfl 50 rfl ?_
      refine g_get (v := .ref (b 22)) C (hiC hiA_3) 0 rfl rfl 9 (by decide) (List.mem_cons_of_mem _ wl_28) rfl rfl dX3_testWorth_50 53 rfl ?_
      refine g_getN (v := .int (S.1 34 2)) C (hiC hiA_0) 37 rfl rfl 2 (by decide) (List.mem_of_getElem? (i := 3) rfl) rfl rfl dX3_testWorth_53 56 rfl ?_
      refine g_i2l C dX3_testWorth_56 57 rfl ?_
      refine g_aload_n C dX3_testWorth_57 rfl 58 rfl ?_
      refine g_get (v := .ref (b 1)) C (hiC hiA_3) 0 rfl rfl 0 (by decide) (List.mem_cons_of_mem _ wl_15) rfl rfl dX3_testWorth_58 61 rfl ?_
      refine g_iload_n C dX3_testWorth_61 rfl 62 rfl ?_
      refine g_aload_n C dX3_testWorth_62 rfl 63 rfl ?_
      refine g_get (v := .ref (b 26)) C (hiC hiA_3) 0 rfl rfl 13 (by decide) (List.mem_cons_of_mem _ wl_35) rfl rfl dX3_testWorth_63 66 rfl ?_
      obtain ⟨v7, hv7, hR⟩ := opt_b hR
      refine g_callLR C (rn_VN C (k_X1_bestSum l g (b 1) (b 2) (b 3) (b 4) (b 5) (b 6) (b 26) (b 29) (S.1 0 0) (S.1 0 1) (S.1 0 2) (S.1 0 3) (S.1 0 4) v6 x2 N_ v7 hv7) ⟨va_cnB 2 C.1.2.2.2.2 (gdA wl_593) rfl rfl rfl (nst C (List.mem_of_getElem? (i := 24) rfl)) (C.1.2.2.2.2 _ (List.mem_cons_of_mem _ wl_14)) hd_X1_bestSum.2 ⟨Nat.le_of_ble_eq_true rfl, Nat.le_of_ble_eq_true rfl⟩, C.1.2.2.2.2 _ (List.mem_cons_of_mem _ wl_591), C.1.2.2.2.2 _ (List.mem_cons_of_mem _ wl_592)⟩ 1 rfl rfl [1, 41, 44] rfl rfl rfl rfl (Nat.le_of_ble_eq_true rfl) ⟨Nat.zero_le _, Nat.zero_le _⟩ dX3_testWorth_66) 69 rfl ?_
      refine g_lmul C dX3_testWorth_69 70 rfl ?_
      refine g_ladd C dX3_testWorth_70 71 rfl ?_
      refine g_lstore C dX3_testWorth_71 [_, _, _, _, _, _, _] (Nat.le_of_ble_eq_true rfl) rfl rfl 73 rfl ?_
      refine g_iinc C dX3_testWorth_73 rfl 1 ic_1 [_, _, _, _, _, _, _] (Nat.le_of_ble_eq_true rfl) rfl rfl 76 rfl ?_
      refine g_goto C dX3_testWorth_76 26 (by decide) ?_
      refine g_lv [some (.ref (b 0)), some (.int x1), some (.int x2), some (.ref (b 24)), some (.long (x4 + ((Int32.toInt64 (S.1 34 2)) * v7))), none, some (.int (x6 + 1))] (lvLe.sm (lvLe.sm (lvLe.sm (lvLe.sm (lvLe.sm (lvLe.nn (lvLe.sm lvLe.nil))))))) ?_
      exact ih _ _ _ rv_ hR hk
def f_X3_testWorth_0 (S : (Nat → Nat → Int32) × (Nat → Nat → Int64)) (p0 : Int32) (p1 : Int32) (N_ : Nat) : Option (Int64 × ((Nat → Nat → Int32) × (Nat → Nat → Int64))) :=
  (f_X1_bestSum (S.1 0 3) (S.2 0) p1 N_).bind fun v1 =>
  (f_X3_testWorth_0_L26 p0 p1 N_ N_ ((Int32.toInt64 ((-10) * (S.1 34 2))) * v1) 0 S).bind fun v8 =>
  (f_X2_sumOfAll (v8.2.2.2 0) N_).bind fun v9 =>
  some ((v8.1 - ((Int32.toInt64 (10 * (f_X1_costOf (v8.2.2.1 3) p0))) * v9)), v8.2.2)
set_option maxRecDepth 100000 in
set_option maxHeartbeats 4000000 in
theorem k_X3_testWorth_0 (l : Launch) (g : gE) (b : Nat → Nat) (y : Nat → Nat → Nat) (S : (Nat → Nat → Int32) × (Nat → Nat → Int64)) (p0 : Int32) (p1 : Int32) (N_ : Nat) (R_ : Int64 × ((Nat → Nat → Int32) × (Nat → Nat → Int64))) (hR : f_X3_testWorth_0 S p0 p1 N_ = some R_) : FnL l g yX3_testWorth wA_X3_testWorth { frames := 4, cells := 0, slots := 0, locals := 97 } [.ref (b 0), .int p0, .int p1, .ref (b 24)] (wC g b y S) R_.1 (wC g b y R_.2) := by
  refine fEntry (As := [.ref (b 0), .int p0, .int p1, .ref (b 24)]) (maxL := 7) (ret := (some .long)) (by decide) rfl [some (.ref (b 0)), some (.int p0), some (.int p1), some (.ref (b 24)), none, none, none] (Nat.le_of_ble_eq_true rfl) (lvInB.to (lvInB.sm (lvInB.sm (lvInB.sm (lvInB.sm (lvInB.nn (lvInB.nn (lvInB.nn lvInB.nil)))))))) ?_
  intro p e s m below meth c A C hr hlocks hname hA
  have C : Cx p s m _ c g A cX3_testWorth 7 wA_X3_testWorth RX3 := C
  rw [f_X3_testWorth_0] at hR
  refine g_bipush C dX3_testWorth_0 (-10) bp_m10 2 rfl ?_
  refine g_aload_n C dX3_testWorth_2 rfl 3 rfl ?_
  refine g_get (v := .ref (b 22)) C (hiC hiA_3) 0 rfl rfl 9 (by decide) (List.mem_cons_of_mem _ wl_28) rfl rfl dX3_testWorth_3 6 rfl ?_
  refine g_getN (v := .int (S.1 34 2)) C (hiC hiA_0) 37 rfl rfl 2 (by decide) (List.mem_of_getElem? (i := 3) rfl) rfl rfl dX3_testWorth_6 9 rfl ?_
  refine g_imul C dX3_testWorth_9 10 rfl ?_
  refine g_i2l C dX3_testWorth_10 11 rfl ?_
  refine g_aload_n C dX3_testWorth_11 rfl 12 rfl ?_
  refine g_get (v := .ref (b 1)) C (hiC hiA_3) 0 rfl rfl 0 (by decide) (List.mem_cons_of_mem _ wl_15) rfl rfl dX3_testWorth_12 15 rfl ?_
  refine g_iload_n C dX3_testWorth_15 rfl 16 rfl ?_
  refine g_aload_n C dX3_testWorth_16 rfl 17 rfl ?_
  obtain ⟨v1, hv1, hR⟩ := opt_b hR
  refine g_callLR C (rn_VN C (k_X1_bestSum l g (b 1) (b 2) (b 3) (b 4) (b 5) (b 6) (b 24) (b 27) (S.1 0 0) (S.1 0 1) (S.1 0 2) (S.1 0 3) (S.1 0 4) (S.2 0) p1 N_ v1 hv1) ⟨va_cnB 2 C.1.2.2.2.2 (gdA wl_593) rfl rfl rfl (nst C (List.mem_of_getElem? (i := 24) rfl)) (C.1.2.2.2.2 _ (List.mem_cons_of_mem _ wl_14)) hd_X1_bestSum.2 ⟨Nat.le_of_ble_eq_true rfl, Nat.le_of_ble_eq_true rfl⟩, C.1.2.2.2.2 _ (List.mem_cons_of_mem _ wl_591), C.1.2.2.2.2 _ (List.mem_cons_of_mem _ wl_592)⟩ 1 rfl rfl [1, 39, 42] rfl rfl rfl rfl (Nat.le_of_ble_eq_true rfl) ⟨Nat.zero_le _, Nat.zero_le _⟩ dX3_testWorth_17) 20 rfl ?_
  refine g_lmul C dX3_testWorth_20 21 rfl ?_
  refine g_lstore C dX3_testWorth_21 [_, _, _, _, _, _, _] (Nat.le_of_ble_eq_true rfl) rfl rfl 23 rfl ?_
  refine g_iconst C dX3_testWorth_23 0 ic_0 24 rfl ?_
  refine g_istore C dX3_testWorth_24 [_, _, _, _, _, _, _] (Nat.le_of_ble_eq_true rfl) rfl rfl 26 rfl ?_
  refine g_lv [some (.ref (b 0)), some (.int p0), some (.int p1), some (.ref (b 24)), some (.long ((Int32.toInt64 ((-10) * (S.1 34 2))) * v1)), none, some (.int 0)] (lvLe.sm (lvLe.sm (lvLe.sm (lvLe.sm (lvLe.sm (lvLe.nn (lvLe.sm lvLe.nil))))))) ?_
  obtain ⟨v8, hv8, hR⟩ := opt_b hR
  refine k_X3_testWorth_0_L26 l g C N_ p0 p1 y N_ ((Int32.toInt64 ((-10) * (S.1 34 2))) * v1) 0 S _ hv8 ?_
  refine g_lload C dX3_testWorth_79 rfl 81 rfl ?_
  refine g_bipush C dX3_testWorth_81 10 bp_10 83 rfl ?_
  refine g_aload_n C dX3_testWorth_83 rfl 84 rfl ?_
  refine g_get (v := .ref (b 1)) C (hiC hiA_3) 0 rfl rfl 0 (by decide) (List.mem_cons_of_mem _ wl_15) rfl rfl dX3_testWorth_84 87 rfl ?_
  refine g_iload_n C dX3_testWorth_87 rfl 88 rfl ?_
  refine g_callIR C (rn_VN C (k_X1_costOf l g (b 1) (b 2) (b 3) (b 4) (b 5) (b 6) (v8.2.2.1 0 0) (v8.2.2.1 0 1) (v8.2.2.1 0 2) (v8.2.2.1 0 3) (v8.2.2.1 0 4) (v8.2.2.1 3) p0) ⟨va_cnB 1 C.1.2.2.2.2 (gdA wl_383) rfl rfl rfl (nst C (List.mem_of_getElem? (i := 15) rfl)) (C.1.2.2.2.2 _ (List.mem_cons_of_mem _ wl_14)) hd_X1_costOf.2 ⟨Nat.le_of_ble_eq_true rfl, Nat.le_of_ble_eq_true rfl⟩, C.1.2.2.2.2 _ (List.mem_cons_of_mem _ wl_381), C.1.2.2.2.2 _ (List.mem_cons_of_mem _ wl_382)⟩ 1 rfl rfl [1, 5] rfl rfl rfl rfl (Nat.le_of_ble_eq_true rfl) ⟨Nat.zero_le _, Nat.zero_le _⟩ dX3_testWorth_88) 91 rfl ?_
  refine g_imul C dX3_testWorth_91 92 rfl ?_
  refine g_i2l C dX3_testWorth_92 93 rfl ?_
  refine g_aload_n C dX3_testWorth_93 rfl 94 rfl ?_
  obtain ⟨v9, hv9, hR⟩ := opt_b hR
  refine g_callLR C (rn_VN C (k_X2_sumOfAll l g (b 24) (b 27) (v8.2.2.2 0) N_ v9 hv9) ⟨va_cnB 0 C.1.2.2.2.2 (gdA wl_478) rfl rfl rfl (nst C (List.mem_of_getElem? (i := 18) rfl)) (C.1.2.2.2.2 _ (List.mem_cons_of_mem _ wl_32)) hd_X2_sumOfAll.2 ⟨Nat.le_of_ble_eq_true rfl, Nat.le_of_ble_eq_true rfl⟩, C.1.2.2.2.2 _ (List.mem_cons_of_mem _ wl_476), C.1.2.2.2.2 _ (List.mem_cons_of_mem _ wl_477)⟩ 39 rfl rfl [39, 42] rfl rfl rfl rfl (Nat.le_of_ble_eq_true rfl) ⟨Nat.zero_le _, Nat.zero_le _⟩ dX3_testWorth_94) 97 rfl ?_
  refine g_lmul C dX3_testWorth_97 98 rfl ?_
  refine g_lsub C dX3_testWorth_98 99 rfl ?_
  obtain rfl := Option.some.inj hR
  exact g_lret C hr hlocks hA (by first | (dsimp only; done) | rfl) (by first | (dsimp only; done) | rfl) dX3_testWorth_99
def f_X3_testWorth_1_L26 (x1 : Int32) (x2 : Int32) (N_ : Nat) : Nat → Int64 → Int32 → ((Nat → Nat → Int32) × (Nat → Nat → Int64)) → Option (Int64 × Int32 × ((Nat → Nat → Int32) × (Nat → Nat → Int64)))
  | 0, _, _, _ => none
  | n_ + 1, x4, x6, S =>
    if 1 < x6 then
      some (x4, x6, S)
    else
      (f_X2_narrow (S.2 2) (S.2 1) (S.1 34 0) x1 x6 N_).bind fun v6 =>
      (f_X1_bestSum (S.1 0 3) v6 x2 N_).bind fun v7 =>
      f_X3_testWorth_1_L26 x1 x2 N_ n_ (x4 + ((Int32.toInt64 (S.1 34 2)) * v7)) (x6 + 1) (S.1, (kLS S.2 2 v6))
set_option maxRecDepth 100000 in
set_option maxHeartbeats 4000000 in
theorem k_X3_testWorth_1_L26 (l : Launch) (g : gE) {p : Program} {e : Env} {s : State} {m : MethodId} {args : Array Value} {below : List Frame} {meth : Method} {c : Code} {Q : State → Prop} {A : Nat → Prop} {b : Nat → Nat}  (C : Cx p s m args c g A cX3_testWorth 7 wA_X3_testWorth RX3) (N_ : Nat) (x1 : Int32) (x2 : Int32) (y : Nat → Nat → Nat) : ∀ (n_ : Nat) (x4 : Int64) (x6 : Int32) (S : (Nat → Nat → Int32) × (Nat → Nat → Int64)) (rv_ : Int64 × Int32 × ((Nat → Nat → Int32) × (Nat → Nat → Int64))), f_X3_testWorth_1_L26 x1 x2 N_ n_ x4 x6 S = some rv_ → (Gm p l e (headSpec wA_X3_testWorth ({ frames := 4, cells := 0, slots := 0, locals := 97 } : Room)).room s m args below meth c Q g A 7 0 0 (wC g b y rv_.2.2) [some (.ref (b 0)), some (.int x1), some (.int x2), some (.ref (b 25)), some (.long rv_.1), none, some (.int rv_.2.1)] [] 79) → Gm p l e (headSpec wA_X3_testWorth ({ frames := 4, cells := 0, slots := 0, locals := 97 } : Room)).room s m args below meth c Q g A 7 0 0 (wC g b y S) [some (.ref (b 0)), some (.int x1), some (.int x2), some (.ref (b 25)), some (.long x4), none, some (.int x6)] [] 26 := by
  intro n_
  induction n_ with
  | zero =>
    intro x4 x6 S rv_ hR
    simp [f_X3_testWorth_1_L26] at hR
  | succ n_ ih =>
    intro x4 x6 S rv_ hR hk
    rw [f_X3_testWorth_1_L26] at hR
    refine g_iload C dX3_testWorth_26 rfl 28 rfl ?_
    refine g_iconst C dX3_testWorth_28 1 ic_1 29 rfl ?_
    refine g_icmp_gt C dX3_testWorth_29 hR 79 32 (by decide) rfl (fun c_29 hR => ?_) (fun c_29 hR => ?_)
    · obtain rfl := Option.some.inj hR
      refine g_lv [some (.ref (b 0)), some (.int x1), some (.int x2), some (.ref (b 25)), some (.long x4), none, some (.int x6)] (lvLe.sm (lvLe.sm (lvLe.sm (lvLe.sm (lvLe.sm (lvLe.nn (lvLe.sm lvLe.nil))))))) ?_
      exact hk
    · refine g_aload_n C dX3_testWorth_32 rfl 33 rfl ?_
      refine g_get (v := .ref (b 26)) C (hiC hiA_3) 0 rfl rfl 13 (by decide) (List.mem_cons_of_mem _ wl_35) rfl rfl dX3_testWorth_33 36 rfl ?_
      refine g_aload_n C dX3_testWorth_36 rfl 37 rfl ?_
      refine g_aload_n C dX3_testWorth_37 rfl 38 rfl ?_
      refine g_get (v := .ref (b 22)) C (hiC hiA_3) 0 rfl rfl 9 (by decide) (List.mem_cons_of_mem _ wl_28) rfl rfl dX3_testWorth_38 41 rfl ?_
      refine g_iload_n C dX3_testWorth_41 rfl 42 rfl ?_
      refine g_iload C dX3_testWorth_42 rfl 44 rfl ?_
      obtain ⟨v6, hv6, hR⟩ := opt_b hR
      refine g_callV C (rn_VN C (k_X2_narrow l g (b 26) (b 29) (b 22) (b 25) (b 28) (S.2 2) (S.2 1) (S.1 34 0) (S.1 34 1) (S.1 34 2) (S.1 34 3) x1 x6 N_ v6 hv6) ⟨va_cnB 4 C.1.2.2.2.2 (gdA wl_417) rfl rfl rfl (nst C (List.mem_of_getElem? (i := 23) rfl)) (C.1.2.2.2.2 _ (List.mem_cons_of_mem _ wl_32)) hd_X2_narrow.2 ⟨Nat.le_of_ble_eq_true rfl, Nat.le_of_ble_eq_true rfl⟩, C.1.2.2.2.2 _ (List.mem_cons_of_mem _ wl_415), C.1.2.2.2.2 _ (List.mem_cons_of_mem _ wl_416)⟩ 41 rfl rfl [41, 44, 40, 43, 37] rfl rfl rfl rfl (Nat.le_of_ble_eq_true rfl) ⟨Nat.zero_le _, Nat.zero_le _⟩ dX3_testWorth_44) (wC g b y (S.1, (kLS S.2 2 v6))) rfl rfl 47 rfl ?_
      refine g_lload C dX3_testWorth_47 rfl 49 rfl ?_
      refine g_aload_n C dX3_testWorth_49 rfl 50 rfl ?_
      refine g_get (v := .ref (b 22)) C (hiC hiA_3) 0 rfl rfl 9 (by decide) (List.mem_cons_of_mem _ wl_28) rfl rfl dX3_testWorth_50 53 rfl ?_
      refine g_getN (v := .int (S.1 34 2)) C (hiC hiA_0) 37 rfl rfl 2 (by decide) (List.mem_of_getElem? (i := 3) rfl) rfl rfl dX3_testWorth_53 56 rfl ?_
      refine g_i2l C dX3_testWorth_56 57 rfl ?_
      refine g_aload_n C dX3_testWorth_57 rfl 58 rfl ?_
      refine g_get (v := .ref (b 1)) C (hiC hiA_3) 0 rfl rfl 0 (by decide) (List.mem_cons_of_mem _ wl_15) rfl rfl dX3_testWorth_58 61 rfl ?_
      refine g_iload_n C dX3_testWorth_61 rfl 62 rfl ?_
      refine g_aload_n C dX3_testWorth_62 rfl 63 rfl ?_
      refine g_get (v := .ref (b 26)) C (hiC hiA_3) 0 rfl rfl 13 (by decide) (List.mem_cons_of_mem _ wl_35) rfl rfl dX3_testWorth_63 66 rfl ?_
      obtain ⟨v7, hv7, hR⟩ := opt_b hR
      refine g_callLR C (rn_VN C (k_X1_bestSum l g (b 1) (b 2) (b 3) (b 4) (b 5) (b 6) (b 26) (b 29) (S.1 0 0) (S.1 0 1) (S.1 0 2) (S.1 0 3) (S.1 0 4) v6 x2 N_ v7 hv7) ⟨va_cnB 2 C.1.2.2.2.2 (gdA wl_593) rfl rfl rfl (nst C (List.mem_of_getElem? (i := 24) rfl)) (C.1.2.2.2.2 _ (List.mem_cons_of_mem _ wl_14)) hd_X1_bestSum.2 ⟨Nat.le_of_ble_eq_true rfl, Nat.le_of_ble_eq_true rfl⟩, C.1.2.2.2.2 _ (List.mem_cons_of_mem _ wl_591), C.1.2.2.2.2 _ (List.mem_cons_of_mem _ wl_592)⟩ 1 rfl rfl [1, 41, 44] rfl rfl rfl rfl (Nat.le_of_ble_eq_true rfl) ⟨Nat.zero_le _, Nat.zero_le _⟩ dX3_testWorth_66) 69 rfl ?_
      refine g_lmul C dX3_testWorth_69 70 rfl ?_
      refine g_ladd C dX3_testWorth_70 71 rfl ?_
      refine g_lstore C dX3_testWorth_71 [_, _, _, _, _, _, _] (Nat.le_of_ble_eq_true rfl) rfl rfl 73 rfl ?_
      refine g_iinc C dX3_testWorth_73 rfl 1 ic_1 [_, _, _, _, _, _, _] (Nat.le_of_ble_eq_true rfl) rfl rfl 76 rfl ?_
      refine g_goto C dX3_testWorth_76 26 (by decide) ?_
      refine g_lv [some (.ref (b 0)), some (.int x1), some (.int x2), some (.ref (b 25)), some (.long (x4 + ((Int32.toInt64 (S.1 34 2)) * v7))), none, some (.int (x6 + 1))] (lvLe.sm (lvLe.sm (lvLe.sm (lvLe.sm (lvLe.sm (lvLe.nn (lvLe.sm lvLe.nil))))))) ?_
      exact ih _ _ _ rv_ hR hk
def f_X3_testWorth_1 (S : (Nat → Nat → Int32) × (Nat → Nat → Int64)) (p0 : Int32) (p1 : Int32) (N_ : Nat) : Option (Int64 × ((Nat → Nat → Int32) × (Nat → Nat → Int64))) :=
  (f_X1_bestSum (S.1 0 3) (S.2 1) p1 N_).bind fun v1 =>
  (f_X3_testWorth_1_L26 p0 p1 N_ N_ ((Int32.toInt64 ((-10) * (S.1 34 2))) * v1) 0 S).bind fun v8 =>
  (f_X2_sumOfAll (v8.2.2.2 1) N_).bind fun v9 =>
  some ((v8.1 - ((Int32.toInt64 (10 * (f_X1_costOf (v8.2.2.1 3) p0))) * v9)), v8.2.2)
set_option maxRecDepth 100000 in
set_option maxHeartbeats 4000000 in
theorem k_X3_testWorth_1 (l : Launch) (g : gE) (b : Nat → Nat) (y : Nat → Nat → Nat) (S : (Nat → Nat → Int32) × (Nat → Nat → Int64)) (p0 : Int32) (p1 : Int32) (N_ : Nat) (R_ : Int64 × ((Nat → Nat → Int32) × (Nat → Nat → Int64))) (hR : f_X3_testWorth_1 S p0 p1 N_ = some R_) : FnL l g yX3_testWorth wA_X3_testWorth { frames := 4, cells := 0, slots := 0, locals := 97 } [.ref (b 0), .int p0, .int p1, .ref (b 25)] (wC g b y S) R_.1 (wC g b y R_.2) := by
  refine fEntry (As := [.ref (b 0), .int p0, .int p1, .ref (b 25)]) (maxL := 7) (ret := (some .long)) (by decide) rfl [some (.ref (b 0)), some (.int p0), some (.int p1), some (.ref (b 25)), none, none, none] (Nat.le_of_ble_eq_true rfl) (lvInB.to (lvInB.sm (lvInB.sm (lvInB.sm (lvInB.sm (lvInB.nn (lvInB.nn (lvInB.nn lvInB.nil)))))))) ?_
  intro p e s m below meth c A C hr hlocks hname hA
  have C : Cx p s m _ c g A cX3_testWorth 7 wA_X3_testWorth RX3 := C
  rw [f_X3_testWorth_1] at hR
  refine g_bipush C dX3_testWorth_0 (-10) bp_m10 2 rfl ?_
  refine g_aload_n C dX3_testWorth_2 rfl 3 rfl ?_
  refine g_get (v := .ref (b 22)) C (hiC hiA_3) 0 rfl rfl 9 (by decide) (List.mem_cons_of_mem _ wl_28) rfl rfl dX3_testWorth_3 6 rfl ?_
  refine g_getN (v := .int (S.1 34 2)) C (hiC hiA_0) 37 rfl rfl 2 (by decide) (List.mem_of_getElem? (i := 3) rfl) rfl rfl dX3_testWorth_6 9 rfl ?_
  refine g_imul C dX3_testWorth_9 10 rfl ?_
  refine g_i2l C dX3_testWorth_10 11 rfl ?_
  refine g_aload_n C dX3_testWorth_11 rfl 12 rfl ?_
  refine g_get (v := .ref (b 1)) C (hiC hiA_3) 0 rfl rfl 0 (by decide) (List.mem_cons_of_mem _ wl_15) rfl rfl dX3_testWorth_12 15 rfl ?_
  refine g_iload_n C dX3_testWorth_15 rfl 16 rfl ?_
  refine g_aload_n C dX3_testWorth_16 rfl 17 rfl ?_
  obtain ⟨v1, hv1, hR⟩ := opt_b hR
  refine g_callLR C (rn_VN C (k_X1_bestSum l g (b 1) (b 2) (b 3) (b 4) (b 5) (b 6) (b 25) (b 28) (S.1 0 0) (S.1 0 1) (S.1 0 2) (S.1 0 3) (S.1 0 4) (S.2 1) p1 N_ v1 hv1) ⟨va_cnB 2 C.1.2.2.2.2 (gdA wl_593) rfl rfl rfl (nst C (List.mem_of_getElem? (i := 24) rfl)) (C.1.2.2.2.2 _ (List.mem_cons_of_mem _ wl_14)) hd_X1_bestSum.2 ⟨Nat.le_of_ble_eq_true rfl, Nat.le_of_ble_eq_true rfl⟩, C.1.2.2.2.2 _ (List.mem_cons_of_mem _ wl_591), C.1.2.2.2.2 _ (List.mem_cons_of_mem _ wl_592)⟩ 1 rfl rfl [1, 40, 43] rfl rfl rfl rfl (Nat.le_of_ble_eq_true rfl) ⟨Nat.zero_le _, Nat.zero_le _⟩ dX3_testWorth_17) 20 rfl ?_
  refine g_lmul C dX3_testWorth_20 21 rfl ?_
  refine g_lstore C dX3_testWorth_21 [_, _, _, _, _, _, _] (Nat.le_of_ble_eq_true rfl) rfl rfl 23 rfl ?_
  refine g_iconst C dX3_testWorth_23 0 ic_0 24 rfl ?_
  refine g_istore C dX3_testWorth_24 [_, _, _, _, _, _, _] (Nat.le_of_ble_eq_true rfl) rfl rfl 26 rfl ?_
  refine g_lv [some (.ref (b 0)), some (.int p0), some (.int p1), some (.ref (b 25)), some (.long ((Int32.toInt64 ((-10) * (S.1 34 2))) * v1)), none, some (.int 0)] (lvLe.sm (lvLe.sm (lvLe.sm (lvLe.sm (lvLe.sm (lvLe.nn (lvLe.sm lvLe.nil))))))) ?_
  obtain ⟨v8, hv8, hR⟩ := opt_b hR
  refine k_X3_testWorth_1_L26 l g C N_ p0 p1 y N_ ((Int32.toInt64 ((-10) * (S.1 34 2))) * v1) 0 S _ hv8 ?_
  refine g_lload C dX3_testWorth_79 rfl 81 rfl ?_
  refine g_bipush C dX3_testWorth_81 10 bp_10 83 rfl ?_
  refine g_aload_n C dX3_testWorth_83 rfl 84 rfl ?_
  refine g_get (v := .ref (b 1)) C (hiC hiA_3) 0 rfl rfl 0 (by decide) (List.mem_cons_of_mem _ wl_15) rfl rfl dX3_testWorth_84 87 rfl ?_
  refine g_iload_n C dX3_testWorth_87 rfl 88 rfl ?_
  refine g_callIR C (rn_VN C (k_X1_costOf l g (b 1) (b 2) (b 3) (b 4) (b 5) (b 6) (v8.2.2.1 0 0) (v8.2.2.1 0 1) (v8.2.2.1 0 2) (v8.2.2.1 0 3) (v8.2.2.1 0 4) (v8.2.2.1 3) p0) ⟨va_cnB 1 C.1.2.2.2.2 (gdA wl_383) rfl rfl rfl (nst C (List.mem_of_getElem? (i := 15) rfl)) (C.1.2.2.2.2 _ (List.mem_cons_of_mem _ wl_14)) hd_X1_costOf.2 ⟨Nat.le_of_ble_eq_true rfl, Nat.le_of_ble_eq_true rfl⟩, C.1.2.2.2.2 _ (List.mem_cons_of_mem _ wl_381), C.1.2.2.2.2 _ (List.mem_cons_of_mem _ wl_382)⟩ 1 rfl rfl [1, 5] rfl rfl rfl rfl (Nat.le_of_ble_eq_true rfl) ⟨Nat.zero_le _, Nat.zero_le _⟩ dX3_testWorth_88) 91 rfl ?_
  refine g_imul C dX3_testWorth_91 92 rfl ?_
  refine g_i2l C dX3_testWorth_92 93 rfl ?_
  refine g_aload_n C dX3_testWorth_93 rfl 94 rfl ?_
  obtain ⟨v9, hv9, hR⟩ := opt_b hR
  refine g_callLR C (rn_VN C (k_X2_sumOfAll l g (b 25) (b 28) (v8.2.2.2 1) N_ v9 hv9) ⟨va_cnB 0 C.1.2.2.2.2 (gdA wl_478) rfl rfl rfl (nst C (List.mem_of_getElem? (i := 18) rfl)) (C.1.2.2.2.2 _ (List.mem_cons_of_mem _ wl_32)) hd_X2_sumOfAll.2 ⟨Nat.le_of_ble_eq_true rfl, Nat.le_of_ble_eq_true rfl⟩, C.1.2.2.2.2 _ (List.mem_cons_of_mem _ wl_476), C.1.2.2.2.2 _ (List.mem_cons_of_mem _ wl_477)⟩ 40 rfl rfl [40, 43] rfl rfl rfl rfl (Nat.le_of_ble_eq_true rfl) ⟨Nat.zero_le _, Nat.zero_le _⟩ dX3_testWorth_94) 97 rfl ?_
  refine g_lmul C dX3_testWorth_97 98 rfl ?_
  refine g_lsub C dX3_testWorth_98 99 rfl ?_
  obtain rfl := Option.some.inj hR
  exact g_lret C hr hlocks hA (by first | (dsimp only; done) | rfl) (by first | (dsimp only; done) | rfl) dX3_testWorth_99
theorem hd_X3_staysBest : yX3_staysBest.cls = RX3 ∧ yX3_staysBest.cls ≠ "java/lang/invoke/MethodHandle" ∧ yX3_staysBest.cls ≠ "java/lang/invoke/VarHandle" ∧ (parseMethodDescriptor yX3_staysBest.desc).map (fun d => d.parameters.length) = some 3 := by decide +kernel
def f_X3_staysBest_L3 (x1 : Int32) (x2 : Int32) (x3 : Int32) (N_ : Nat) : Nat → Int32 → ((Nat → Nat → Int32) × (Nat → Nat → Int64)) → Option ((Bool × ((Nat → Nat → Int32) × (Nat → Nat → Int64))) ⊕ (Int32 × ((Nat → Nat → Int32) × (Nat → Nat → Int64))))
  | 0, _, _ => none
  | n_ + 1, x4, S =>
    if 1 < x4 then
      some (.inr (x4, S))
    else
      (f_X2_narrow (S.2 1) (S.2 0) (S.1 34 0) x1 x4 N_).bind fun v7 =>
      (f_X2_sumOfAll v7 N_).bind fun v8 =>
      if (lg_cmp v8 0) ≤ 0 then
        f_X3_staysBest_L3 x1 x2 x3 N_ n_ (x4 + 1) (S.1, (kLS S.2 1 v7))
      else
        (f_X1_bestUse (S.1 0 3) v7 x2 N_).bind fun v9 =>
        if v9 = x3 then
          f_X3_staysBest_L3 x1 x2 x3 N_ n_ (x4 + 1) (S.1, (kLS S.2 1 v7))
        else
          some (.inl (false, (S.1, (kLS S.2 1 v7))))
set_option maxRecDepth 100000 in
set_option maxHeartbeats 4000000 in
theorem k_X3_staysBest_L3 (l : Launch) (g : gE) {p : Program} {e : Env} {s : State} {m : MethodId} {args : Array Value} {below : List Frame} {meth : Method} {c : Code} {Q : State → Prop} {A : Nat → Prop} {wc0 : va_W} {b : Nat → Nat}  (C : Cx p s m args c g A cX3_staysBest 5 wA_X3_staysBest RX3) (hr : meth.sig.returnType = some .boolean) (hlocks : meth.locks = false) (hA : va_A wc0 s.heap.size = A) (N_ : Nat) (x1 : Int32) (x2 : Int32) (x3 : Int32) (y : Nat → Nat → Nat) : ∀ (n_ : Nat) (x4 : Int32) (S : (Nat → Nat → Int32) × (Nat → Nat → Int64)) (rv_ : (Bool × ((Nat → Nat → Int32) × (Nat → Nat → Int64))) ⊕ (Int32 × ((Nat → Nat → Int32) × (Nat → Nat → Int64)))), f_X3_staysBest_L3 x1 x2 x3 N_ n_ x4 S = some rv_ → (∀ v_, rv_ = .inr v_ → Gm p l e (headSpec wA_X3_staysBest ({ frames := 4, cells := 0, slots := 0, locals := 100 } : Room)).room s m args below meth c Q g A 5 0 0 (wC g b y v_.2) [some (.ref (b 0)), some (.int x1), some (.int x2), some (.int x3), some (.int v_.1)] [] 63) → (∀ r_, rv_ = .inl r_ → Q = MQ below (qI g wc0 (b2i r_.1) (wC g b y r_.2) s.heap.size) args s 0 0 A) → Gm p l e (headSpec wA_X3_staysBest ({ frames := 4, cells := 0, slots := 0, locals := 100 } : Room)).room s m args below meth c Q g A 5 0 0 (wC g b y S) [some (.ref (b 0)), some (.int x1), some (.int x2), some (.int x3), some (.int x4)] [] 3 := by
  intro n_
  induction n_ with
  | zero =>
    intro x4 S rv_ hR
    simp [f_X3_staysBest_L3] at hR
  | succ n_ ih =>
    intro x4 S rv_ hR hk hq
    rw [f_X3_staysBest_L3] at hR
    refine g_iload C dX3_staysBest_3 rfl 5 rfl ?_
    refine g_iconst C dX3_staysBest_5 1 ic_1 6 rfl ?_
    refine g_icmp_gt C dX3_staysBest_6 hR 63 9 (by decide) rfl (fun c_6 hR => ?_) (fun c_6 hR => ?_)
    · obtain rfl := Option.some.inj hR
      refine g_lv [some (.ref (b 0)), some (.int x1), some (.int x2), some (.int x3), some (.int x4)] (lvLe.sm (lvLe.sm (lvLe.sm (lvLe.sm (lvLe.sm lvLe.nil))))) ?_
      exact hk _ rfl
    · refine g_aload_n C dX3_staysBest_9 rfl 10 rfl ?_
      refine g_get (v := .ref (b 25)) C (hiC hiA_3) 0 rfl rfl 12 (by decide) (List.mem_cons_of_mem _ wl_34) rfl rfl dX3_staysBest_10 13 rfl ?_
      refine g_aload_n C dX3_staysBest_13 rfl 14 rfl ?_
      refine g_get (v := .ref (b 24)) C (hiC hiA_3) 0 rfl rfl 11 (by decide) (List.mem_cons_of_mem _ wl_33) rfl rfl dX3_staysBest_14 17 rfl ?_
      refine g_aload_n C dX3_staysBest_17 rfl 18 rfl ?_
      refine g_get (v := .ref (b 22)) C (hiC hiA_3) 0 rfl rfl 9 (by decide) (List.mem_cons_of_mem _ wl_28) rfl rfl dX3_staysBest_18 21 rfl ?_
      refine g_iload_n C dX3_staysBest_21 rfl 22 rfl ?_
      refine g_iload C dX3_staysBest_22 rfl 24 rfl ?_
      obtain ⟨v7, hv7, hR⟩ := opt_b hR
      refine g_callV C (rn_VN C (k_X2_narrow l g (b 25) (b 28) (b 22) (b 24) (b 27) (S.2 1) (S.2 0) (S.1 34 0) (S.1 34 1) (S.1 34 2) (S.1 34 3) x1 x4 N_ v7 hv7) ⟨va_cnB 4 C.1.2.2.2.2 (gdA wl_417) rfl rfl rfl (nst C (List.mem_of_getElem? (i := 23) rfl)) (C.1.2.2.2.2 _ (List.mem_cons_of_mem _ wl_32)) hd_X2_narrow.2 ⟨Nat.le_of_ble_eq_true rfl, Nat.le_of_ble_eq_true rfl⟩, C.1.2.2.2.2 _ (List.mem_cons_of_mem _ wl_415), C.1.2.2.2.2 _ (List.mem_cons_of_mem _ wl_416)⟩ 40 rfl rfl [40, 43, 39, 42, 37] rfl rfl rfl rfl (Nat.le_of_ble_eq_true rfl) ⟨Nat.zero_le _, Nat.zero_le _⟩ dX3_staysBest_24) (wC g b y (S.1, (kLS S.2 1 v7))) rfl rfl 27 rfl ?_
      refine g_aload_n C dX3_staysBest_27 rfl 28 rfl ?_
      refine g_get (v := .ref (b 25)) C (hiC hiA_3) 0 rfl rfl 12 (by decide) (List.mem_cons_of_mem _ wl_34) rfl rfl dX3_staysBest_28 31 rfl ?_
      obtain ⟨v8, hv8, hR⟩ := opt_b hR
      refine g_callLR C (rn_VN C (k_X2_sumOfAll l g (b 25) (b 28) v7 N_ v8 hv8) ⟨va_cnB 0 C.1.2.2.2.2 (gdA wl_478) rfl rfl rfl (nst C (List.mem_of_getElem? (i := 18) rfl)) (C.1.2.2.2.2 _ (List.mem_cons_of_mem _ wl_32)) hd_X2_sumOfAll.2 ⟨Nat.le_of_ble_eq_true rfl, Nat.le_of_ble_eq_true rfl⟩, C.1.2.2.2.2 _ (List.mem_cons_of_mem _ wl_476), C.1.2.2.2.2 _ (List.mem_cons_of_mem _ wl_477)⟩ 40 rfl rfl [40, 43] rfl rfl rfl rfl (Nat.le_of_ble_eq_true rfl) ⟨Nat.zero_le _, Nat.zero_le _⟩ dX3_staysBest_31) 34 rfl ?_
      refine g_lconst C dX3_staysBest_34 0 (by decide) 35 rfl ?_
      refine g_lcmp C dX3_staysBest_35 36 rfl ?_
      refine g_if_le C dX3_staysBest_36 hR 57 39 (by decide) rfl (fun c_36 hR => ?_) (fun c_36 hR => ?_)
      · refine g_iinc C dX3_staysBest_57 rfl 1 ic_1 [_, _, _, _, _] (Nat.le_of_ble_eq_true rfl) rfl rfl 60 rfl ?_
        refine g_goto C dX3_staysBest_60 3 (by decide) ?_
        refine g_lv [some (.ref (b 0)), some (.int x1), some (.int x2), some (.int x3), some (.int (x4 + 1))] (lvLe.sm (lvLe.sm (lvLe.sm (lvLe.sm (lvLe.sm lvLe.nil))))) ?_
        exact ih _ _ rv_ hR hk hq
      · refine g_aload_n C dX3_staysBest_39 rfl 40 rfl ?_
        refine g_get (v := .ref (b 1)) C (hiC hiA_3) 0 rfl rfl 0 (by decide) (List.mem_cons_of_mem _ wl_15) rfl rfl dX3_staysBest_40 43 rfl ?_
        refine g_iload_n C dX3_staysBest_43 rfl 44 rfl ?_
        refine g_aload_n C dX3_staysBest_44 rfl 45 rfl ?_
        refine g_get (v := .ref (b 25)) C (hiC hiA_3) 0 rfl rfl 12 (by decide) (List.mem_cons_of_mem _ wl_34) rfl rfl dX3_staysBest_45 48 rfl ?_
        obtain ⟨v9, hv9, hR⟩ := opt_b hR
        refine g_callIR C (rn_VN C (k_X1_bestUse l g (b 1) (b 2) (b 3) (b 4) (b 5) (b 6) (b 25) (b 28) (S.1 0 0) (S.1 0 1) (S.1 0 2) (S.1 0 3) (S.1 0 4) v7 x2 N_ v9 hv9) ⟨va_cnB 2 C.1.2.2.2.2 (gdA wl_549) rfl rfl rfl (nst C (List.mem_of_getElem? (i := 20) rfl)) (C.1.2.2.2.2 _ (List.mem_cons_of_mem _ wl_14)) hd_X1_bestUse.2 ⟨Nat.le_of_ble_eq_true rfl, Nat.le_of_ble_eq_true rfl⟩, C.1.2.2.2.2 _ (List.mem_cons_of_mem _ wl_547), C.1.2.2.2.2 _ (List.mem_cons_of_mem _ wl_548)⟩ 1 rfl rfl [1, 40, 43] rfl rfl rfl rfl (Nat.le_of_ble_eq_true rfl) ⟨Nat.zero_le _, Nat.zero_le _⟩ dX3_staysBest_48) 51 rfl ?_
        refine g_iload_n C dX3_staysBest_51 rfl 52 rfl ?_
        refine g_icmp_eq C dX3_staysBest_52 hR 57 55 (by decide) rfl (fun c_52 hR => ?_) (fun c_52 hR => ?_)
        · refine g_iinc C dX3_staysBest_57 rfl 1 ic_1 [_, _, _, _, _] (Nat.le_of_ble_eq_true rfl) rfl rfl 60 rfl ?_
          refine g_goto C dX3_staysBest_60 3 (by decide) ?_
          refine g_lv [some (.ref (b 0)), some (.int x1), some (.int x2), some (.int x3), some (.int (x4 + 1))] (lvLe.sm (lvLe.sm (lvLe.sm (lvLe.sm (lvLe.sm lvLe.nil))))) ?_
          exact ih _ _ rv_ hR hk hq
        · refine g_iconst C dX3_staysBest_55 0 ic_0 56 rfl ?_
          obtain rfl := Option.some.inj hR
          rw [hq _ rfl]
          exact g_zret C hr hlocks (by decide) hA rfl (by first | (dsimp only; done) | rfl) dX3_staysBest_56
def f_X3_staysBest (S : (Nat → Nat → Int32) × (Nat → Nat → Int64)) (p0 : Int32) (p1 : Int32) (p2 : Int32) (N_ : Nat) : Option (Bool × ((Nat → Nat → Int32) × (Nat → Nat → Int64))) :=
  (f_X3_staysBest_L3 p0 p1 p2 N_ N_ 0 S).bind fun v10 =>
    match v10 with
    | .inl r => some r
    | .inr v11 =>
      some (true, v11.2)
set_option maxRecDepth 100000 in
set_option maxHeartbeats 4000000 in
theorem k_X3_staysBest (l : Launch) (g : gE) (b : Nat → Nat) (y : Nat → Nat → Nat) (S : (Nat → Nat → Int32) × (Nat → Nat → Int64)) (p0 : Int32) (p1 : Int32) (p2 : Int32) (N_ : Nat) (R_ : Bool × ((Nat → Nat → Int32) × (Nat → Nat → Int64))) (hR : f_X3_staysBest S p0 p1 p2 N_ = some R_) : FnI l g yX3_staysBest wA_X3_staysBest { frames := 4, cells := 0, slots := 0, locals := 100 } [.ref (b 0), .int p0, .int p1, .int p2] (wC g b y S) (b2i R_.1) (wC g b y R_.2) := by
  refine fEntry (As := [.ref (b 0), .int p0, .int p1, .int p2]) (maxL := 5) (ret := (some .boolean)) (by decide) rfl [some (.ref (b 0)), some (.int p0), some (.int p1), some (.int p2), none] (Nat.le_of_ble_eq_true rfl) (lvInB.to (lvInB.sm (lvInB.sm (lvInB.sm (lvInB.sm (lvInB.nn lvInB.nil)))))) ?_
  intro p e s m below meth c A C hr hlocks hname hA
  have C : Cx p s m _ c g A cX3_staysBest 5 wA_X3_staysBest RX3 := C
  rw [f_X3_staysBest] at hR
  refine g_iconst C dX3_staysBest_0 0 ic_0 1 rfl ?_
  refine g_istore C dX3_staysBest_1 [_, _, _, _, _] (Nat.le_of_ble_eq_true rfl) rfl rfl 3 rfl ?_
  refine g_lv [some (.ref (b 0)), some (.int p0), some (.int p1), some (.int p2), some (.int 0)] (lvLe.sm (lvLe.sm (lvLe.sm (lvLe.sm (lvLe.sm lvLe.nil))))) ?_
  obtain ⟨v10, hv10, hR⟩ := opt_b hR
  rcases v10 with r_ | v11
  · refine k_X3_staysBest_L3 l g C hr hlocks hA N_ p0 p1 p2 y N_ 0 S _ hv10 (fun _ h => nomatch h) (fun r h => ?_)
    cases h
    obtain rfl := Option.some.inj hR
    rfl
  · refine k_X3_staysBest_L3 l g C hr hlocks hA N_ p0 p1 p2 y N_ 0 S _ hv10 (fun _ h => ?_) (fun _ h => nomatch h)
    cases h
    refine g_iconst C dX3_staysBest_63 1 ic_1 64 rfl ?_
    obtain rfl := Option.some.inj hR
    exact g_zret C hr hlocks (by decide) hA rfl (by first | (dsimp only; done) | rfl) dX3_staysBest_64
theorem hd_X3_pairWorth : yX3_pairWorth.cls = RX3 ∧ yX3_pairWorth.cls ≠ "java/lang/invoke/MethodHandle" ∧ yX3_pairWorth.cls ≠ "java/lang/invoke/VarHandle" ∧ (parseMethodDescriptor yX3_pairWorth.desc).map (fun d => d.parameters.length) = some 2 := by decide +kernel
def f_X3_pairWorth_L28 (x2 : Int32) (x3 : Int32) (x4 : Int32) (N_ : Nat) : Nat → Int64 → Int32 → ((Nat → Nat → Int32) × (Nat → Nat → Int64)) → Option (Int64 × Int32 × ((Nat → Nat → Int32) × (Nat → Nat → Int64)))
  | 0, _, _, _ => none
  | n_ + 1, x5, x7, S =>
    if 1 < x7 then
      some (x5, x7, S)
    else
      (f_X2_narrow (S.2 1) (S.2 0) (S.1 34 0) x3 x7 N_).bind fun v6 =>
      (f_X3_testWorth_1 (S.1, (kLS S.2 1 v6)) x4 x2 N_).bind fun v7 =>
      f_X3_pairWorth_L28 x2 x3 x4 N_ n_ (x5 + v7.1) (x7 + 1) v7.2
set_option maxRecDepth 100000 in
set_option maxHeartbeats 4000000 in
theorem k_X3_pairWorth_L28 (l : Launch) (g : gE) {p : Program} {e : Env} {s : State} {m : MethodId} {args : Array Value} {below : List Frame} {meth : Method} {c : Code} {Q : State → Prop} {A : Nat → Prop} {b : Nat → Nat}  (C : Cx p s m args c g A cX3_pairWorth 8 wA_X3_pairWorth RX3) (N_ : Nat) (x1 : Int32) (x2 : Int32) (x3 : Int32) (x4 : Int32) (y : Nat → Nat → Nat) : ∀ (n_ : Nat) (x5 : Int64) (x7 : Int32) (S : (Nat → Nat → Int32) × (Nat → Nat → Int64)) (rv_ : Int64 × Int32 × ((Nat → Nat → Int32) × (Nat → Nat → Int64))), f_X3_pairWorth_L28 x2 x3 x4 N_ n_ x5 x7 S = some rv_ → (Gm p l e (headSpec wA_X3_pairWorth ({ frames := 5, cells := 0, slots := 0, locals := 123 } : Room)).room s m args below meth c Q g A 8 0 0 (wC g b y rv_.2.2) [some (.ref (b 0)), some (.int x1), some (.int x2), some (.int x3), some (.int x4), some (.long rv_.1), none, some (.int rv_.2.1)] [] 74) → Gm p l e (headSpec wA_X3_pairWorth ({ frames := 5, cells := 0, slots := 0, locals := 123 } : Room)).room s m args below meth c Q g A 8 0 0 (wC g b y S) [some (.ref (b 0)), some (.int x1), some (.int x2), some (.int x3), some (.int x4), some (.long x5), none, some (.int x7)] [] 28 := by
  intro n_
  induction n_ with
  | zero =>
    intro x5 x7 S rv_ hR
    simp [f_X3_pairWorth_L28] at hR
  | succ n_ ih =>
    intro x5 x7 S rv_ hR hk
    rw [f_X3_pairWorth_L28] at hR
    refine g_iload C dX3_pairWorth_28 rfl 30 rfl ?_
    refine g_iconst C dX3_pairWorth_30 1 ic_1 31 rfl ?_
    refine g_icmp_gt C dX3_pairWorth_31 hR 74 34 (by decide) rfl (fun c_31 hR => ?_) (fun c_31 hR => ?_)
    · obtain rfl := Option.some.inj hR
      refine g_lv [some (.ref (b 0)), some (.int x1), some (.int x2), some (.int x3), some (.int x4), some (.long x5), none, some (.int x7)] (lvLe.sm (lvLe.sm (lvLe.sm (lvLe.sm (lvLe.sm (lvLe.sm (lvLe.nn (lvLe.sm lvLe.nil)))))))) ?_
      exact hk
    · refine g_aload_n C dX3_pairWorth_34 rfl 35 rfl ?_
      refine g_get (v := .ref (b 25)) C (hiC hiA_3) 0 rfl rfl 12 (by decide) (List.mem_cons_of_mem _ wl_34) rfl rfl dX3_pairWorth_35 38 rfl ?_
      refine g_aload_n C dX3_pairWorth_38 rfl 39 rfl ?_
      refine g_get (v := .ref (b 24)) C (hiC hiA_3) 0 rfl rfl 11 (by decide) (List.mem_cons_of_mem _ wl_33) rfl rfl dX3_pairWorth_39 42 rfl ?_
      refine g_aload_n C dX3_pairWorth_42 rfl 43 rfl ?_
      refine g_get (v := .ref (b 22)) C (hiC hiA_3) 0 rfl rfl 9 (by decide) (List.mem_cons_of_mem _ wl_28) rfl rfl dX3_pairWorth_43 46 rfl ?_
      refine g_iload_n C dX3_pairWorth_46 rfl 47 rfl ?_
      refine g_iload C dX3_pairWorth_47 rfl 49 rfl ?_
      obtain ⟨v6, hv6, hR⟩ := opt_b hR
      refine g_callV C (rn_VN C (k_X2_narrow l g (b 25) (b 28) (b 22) (b 24) (b 27) (S.2 1) (S.2 0) (S.1 34 0) (S.1 34 1) (S.1 34 2) (S.1 34 3) x3 x7 N_ v6 hv6) ⟨va_cnB 4 C.1.2.2.2.2 (gdA wl_417) rfl rfl rfl (nst C (List.mem_of_getElem? (i := 23) rfl)) (C.1.2.2.2.2 _ (List.mem_cons_of_mem _ wl_32)) hd_X2_narrow.2 ⟨Nat.le_of_ble_eq_true rfl, Nat.le_of_ble_eq_true rfl⟩, C.1.2.2.2.2 _ (List.mem_cons_of_mem _ wl_415), C.1.2.2.2.2 _ (List.mem_cons_of_mem _ wl_416)⟩ 40 rfl rfl [40, 43, 39, 42, 37] rfl rfl rfl rfl (Nat.le_of_ble_eq_true rfl) ⟨Nat.zero_le _, Nat.zero_le _⟩ dX3_pairWorth_49) (wC g b y (S.1, (kLS S.2 1 v6))) rfl rfl 52 rfl ?_
      refine g_lload C dX3_pairWorth_52 rfl 54 rfl ?_
      refine g_aload_n C dX3_pairWorth_54 rfl 55 rfl ?_
      refine g_iload C dX3_pairWorth_55 rfl 57 rfl ?_
      refine g_iload_n C dX3_pairWorth_57 rfl 58 rfl ?_
      refine g_aload_n C dX3_pairWorth_58 rfl 59 rfl ?_
      refine g_get (v := .ref (b 25)) C (hiC hiA_3) 0 rfl rfl 12 (by decide) (List.mem_cons_of_mem _ wl_34) rfl rfl dX3_pairWorth_59 62 rfl ?_
      obtain ⟨v7, hv7, hR⟩ := opt_b hR
      refine g_callL C (rn_V C (k_X3_testWorth_1 l g b y (S.1, (kLS S.2 1 v6)) x4 x2 N_ v7 hv7) (cwV 3 C.1.2.2.2.2 (gdV wl_590 wl_587 wl_588 wl_589 wl_2) rfl rfl rfl hd_X3_testWorth ⟨Nat.le_of_ble_eq_true rfl, Nat.le_of_ble_eq_true rfl⟩) 0 rfl rfl _ rg_C rg_n rfl rfl (Nat.le_of_ble_eq_true rfl) ⟨Nat.zero_le _, Nat.zero_le _⟩ dX3_pairWorth_62) (wC g b y v7.2) (rg_put (wC_len.trans wC_len.symm)) (rg_len (wC_len.trans wC_len.symm)) 65 rfl ?_
      refine g_ladd C dX3_pairWorth_65 66 rfl ?_
      refine g_lstore C dX3_pairWorth_66 [_, _, _, _, _, _, _, _] (Nat.le_of_ble_eq_true rfl) rfl rfl 68 rfl ?_
      refine g_iinc C dX3_pairWorth_68 rfl 1 ic_1 [_, _, _, _, _, _, _, _] (Nat.le_of_ble_eq_true rfl) rfl rfl 71 rfl ?_
      refine g_goto C dX3_pairWorth_71 28 (by decide) ?_
      refine g_lv [some (.ref (b 0)), some (.int x1), some (.int x2), some (.int x3), some (.int x4), some (.long (x5 + v7.1)), none, some (.int (x7 + 1))] (lvLe.sm (lvLe.sm (lvLe.sm (lvLe.sm (lvLe.sm (lvLe.sm (lvLe.nn (lvLe.sm lvLe.nil)))))))) ?_
      exact ih _ _ _ rv_ hR hk
def f_X3_pairWorth (S : (Nat → Nat → Int32) × (Nat → Nat → Int64)) (p0 : Int32) (p1 : Int32) (N_ : Nat) : Option (Int64 × ((Nat → Nat → Int32) × (Nat → Nat → Int64))) :=
  (f_X3_testWorth_0 S (p0 / 4) p1 N_).bind fun v1 =>
  (f_X3_pairWorth_L28 p1 (p0 / 4) (p0 - p0 / 4 * 4) N_ N_ (10 * v1.1) 0 v1.2).bind fun v8 =>
  some (v8.1, v8.2.2)
set_option maxRecDepth 100000 in
set_option maxHeartbeats 4000000 in
theorem k_X3_pairWorth (l : Launch) (g : gE) (b : Nat → Nat) (y : Nat → Nat → Nat) (S : (Nat → Nat → Int32) × (Nat → Nat → Int64)) (p0 : Int32) (p1 : Int32) (N_ : Nat) (R_ : Int64 × ((Nat → Nat → Int32) × (Nat → Nat → Int64))) (hR : f_X3_pairWorth S p0 p1 N_ = some R_) : FnL l g yX3_pairWorth wA_X3_pairWorth { frames := 5, cells := 0, slots := 0, locals := 123 } [.ref (b 0), .int p0, .int p1] (wC g b y S) R_.1 (wC g b y R_.2) := by
  refine fEntry (As := [.ref (b 0), .int p0, .int p1]) (maxL := 8) (ret := (some .long)) (by decide) rfl [some (.ref (b 0)), some (.int p0), some (.int p1), none, none, none, none, none] (Nat.le_of_ble_eq_true rfl) (lvInB.to (lvInB.sm (lvInB.sm (lvInB.sm (lvInB.nn (lvInB.nn (lvInB.nn (lvInB.nn (lvInB.nn lvInB.nil))))))))) ?_
  intro p e s m below meth c A C hr hlocks hname hA
  have C : Cx p s m _ c g A cX3_pairWorth 8 wA_X3_pairWorth RX3 := C
  rw [f_X3_pairWorth] at hR
  refine g_iload_n C dX3_pairWorth_0 rfl 1 rfl ?_
  refine g_iconst C dX3_pairWorth_1 4 ic_4 2 rfl ?_
  refine g_idiv C dX3_pairWorth_2 (by decide) 3 rfl ?_
  refine g_istore_n C dX3_pairWorth_3 [_, _, _, _, _, _, _, _] (Nat.le_of_ble_eq_true rfl) rfl rfl 4 rfl ?_
  refine g_iload_n C dX3_pairWorth_4 rfl 5 rfl ?_
  refine g_iconst C dX3_pairWorth_5 4 ic_4 6 rfl ?_
  refine g_irem C dX3_pairWorth_6 (by decide) 7 rfl ?_
  refine g_istore C dX3_pairWorth_7 [_, _, _, _, _, _, _, _] (Nat.le_of_ble_eq_true rfl) rfl rfl 9 rfl ?_
  refine g_ldc2 C dX3_pairWorth_9 (C.1.2.2.2.2 _ (List.mem_cons_of_mem _ wl_586)) 12 rfl ?_
  refine g_aload_n C dX3_pairWorth_12 rfl 13 rfl ?_
  refine g_iload_n C dX3_pairWorth_13 rfl 14 rfl ?_
  refine g_iload_n C dX3_pairWorth_14 rfl 15 rfl ?_
  refine g_aload_n C dX3_pairWorth_15 rfl 16 rfl ?_
  refine g_get (v := .ref (b 24)) C (hiC hiA_3) 0 rfl rfl 11 (by decide) (List.mem_cons_of_mem _ wl_33) rfl rfl dX3_pairWorth_16 19 rfl ?_
  obtain ⟨v1, hv1, hR⟩ := opt_b hR
  refine g_callL C (rn_V C (k_X3_testWorth_0 l g b y S (p0 / 4) p1 N_ v1 hv1) (cwV 3 C.1.2.2.2.2 (gdV wl_590 wl_587 wl_588 wl_589 wl_2) rfl rfl rfl hd_X3_testWorth ⟨Nat.le_of_ble_eq_true rfl, Nat.le_of_ble_eq_true rfl⟩) 0 rfl rfl _ rg_C rg_n rfl rfl (Nat.le_of_ble_eq_true rfl) ⟨Nat.zero_le _, Nat.zero_le _⟩ dX3_pairWorth_19) (wC g b y v1.2) (rg_put (wC_len.trans wC_len.symm)) (rg_len (wC_len.trans wC_len.symm)) 22 rfl ?_
  refine g_lmul C dX3_pairWorth_22 23 rfl ?_
  refine g_lstore C dX3_pairWorth_23 [_, _, _, _, _, _, _, _] (Nat.le_of_ble_eq_true rfl) rfl rfl 25 rfl ?_
  refine g_iconst C dX3_pairWorth_25 0 ic_0 26 rfl ?_
  refine g_istore C dX3_pairWorth_26 [_, _, _, _, _, _, _, _] (Nat.le_of_ble_eq_true rfl) rfl rfl 28 rfl ?_
  refine g_lv [some (.ref (b 0)), some (.int p0), some (.int p1), some (.int (p0 / 4)), some (.int (p0 - p0 / 4 * 4)), some (.long (10 * v1.1)), none, some (.int 0)] (lvLe.sm (lvLe.sm (lvLe.sm (lvLe.sm (lvLe.sm (lvLe.sm (lvLe.nn (lvLe.sm lvLe.nil)))))))) ?_
  obtain ⟨v8, hv8, hR⟩ := opt_b hR
  refine k_X3_pairWorth_L28 l g C N_ p0 p1 (p0 / 4) (p0 - p0 / 4 * 4) y N_ (10 * v1.1) 0 v1.2 _ hv8 ?_
  refine g_lload C dX3_pairWorth_74 rfl 76 rfl ?_
  obtain rfl := Option.some.inj hR
  exact g_lret C hr hlocks hA (by first | (dsimp only; done) | rfl) (by first | (dsimp only; done) | rfl) dX3_pairWorth_76
theorem hd_X3_firstWorth : yX3_firstWorth.cls = RX3 ∧ yX3_firstWorth.cls ≠ "java/lang/invoke/MethodHandle" ∧ yX3_firstWorth.cls ≠ "java/lang/invoke/VarHandle" ∧ (parseMethodDescriptor yX3_firstWorth.desc).map (fun d => d.parameters.length) = some 2 := by decide +kernel
def f_X3_firstWorth_L48 (x2 : Int32) (N_ : Nat) : Nat → Int64 → Int32 → ((Nat → Nat → Int32) × (Nat → Nat → Int64)) → Option (Int64 × Int32 × ((Nat → Nat → Int32) × (Nat → Nat → Int64)))
  | 0, _, _, _ => none
  | n_ + 1, x6, x8, S =>
    if 4 ≤ x8 then
      some (x6, x8, S)
    else
      (f_X3_testWorth_1 S x8 x2 N_).bind fun v5 =>
      f_X3_firstWorth_L48 x2 N_ n_ (if v5.1 < x6 then x6 else v5.1) (x8 + 1) v5.2
set_option maxRecDepth 100000 in
set_option maxHeartbeats 4000000 in
theorem k_X3_firstWorth_L48 (l : Launch) (g : gE) {p : Program} {e : Env} {s : State} {m : MethodId} {args : Array Value} {below : List Frame} {meth : Method} {c : Code} {Q : State → Prop} {A : Nat → Prop} {b : Nat → Nat}  (C : Cx p s m args c g A cX3_firstWorth 9 wA_X3_firstWorth RX3) (N_ : Nat) (x1 : Int32) (x2 : Int32) (x3 : Int64) (x5 : Int32) (y : Nat → Nat → Nat) : ∀ (n_ : Nat) (x6 : Int64) (x8 : Int32) (S : (Nat → Nat → Int32) × (Nat → Nat → Int64)) (rv_ : Int64 × Int32 × ((Nat → Nat → Int32) × (Nat → Nat → Int64))), f_X3_firstWorth_L48 x2 N_ n_ x6 x8 S = some rv_ → (Gm p l e (headSpec wA_X3_firstWorth ({ frames := 5, cells := 0, slots := 0, locals := 123 } : Room)).room s m args below meth c Q g A 9 0 0 (wC g b y rv_.2.2) [some (.ref (b 0)), some (.int x1), some (.int x2), some (.long x3), none, some (.int x5), some (.long rv_.1), none, some (.int rv_.2.1)] [] 78) → Gm p l e (headSpec wA_X3_firstWorth ({ frames := 5, cells := 0, slots := 0, locals := 123 } : Room)).room s m args below meth c Q g A 9 0 0 (wC g b y S) [some (.ref (b 0)), some (.int x1), some (.int x2), some (.long x3), none, some (.int x5), some (.long x6), none, some (.int x8)] [] 48 := by
  intro n_
  induction n_ with
  | zero =>
    intro x6 x8 S rv_ hR
    simp [f_X3_firstWorth_L48] at hR
  | succ n_ ih =>
    intro x6 x8 S rv_ hR hk
    rw [f_X3_firstWorth_L48] at hR
    refine g_iload C dX3_firstWorth_48 rfl 50 rfl ?_
    refine g_iconst C dX3_firstWorth_50 4 ic_4 51 rfl ?_
    refine g_icmp_ge C dX3_firstWorth_51 hR 78 54 (by decide) rfl (fun c_51 hR => ?_) (fun c_51 hR => ?_)
    · obtain rfl := Option.some.inj hR
      refine g_lv [some (.ref (b 0)), some (.int x1), some (.int x2), some (.long x3), none, some (.int x5), some (.long x6), none, some (.int x8)] (lvLe.sm (lvLe.sm (lvLe.sm (lvLe.sm (lvLe.nn (lvLe.sm (lvLe.sm (lvLe.nn (lvLe.sm lvLe.nil))))))))) ?_
      exact hk
    · refine g_lload C dX3_firstWorth_54 rfl 56 rfl ?_
      refine g_aload_n C dX3_firstWorth_56 rfl 57 rfl ?_
      refine g_iload C dX3_firstWorth_57 rfl 59 rfl ?_
      refine g_iload_n C dX3_firstWorth_59 rfl 60 rfl ?_
      refine g_aload_n C dX3_firstWorth_60 rfl 61 rfl ?_
      refine g_get (v := .ref (b 25)) C (hiC hiA_3) 0 rfl rfl 12 (by decide) (List.mem_cons_of_mem _ wl_34) rfl rfl dX3_firstWorth_61 64 rfl ?_
      obtain ⟨v5, hv5, hR⟩ := opt_b hR
      refine g_callL C (rn_V C (k_X3_testWorth_1 l g b y S x8 x2 N_ v5 hv5) (cwV 3 C.1.2.2.2.2 (gdV wl_590 wl_587 wl_588 wl_589 wl_2) rfl rfl rfl hd_X3_testWorth ⟨Nat.le_of_ble_eq_true rfl, Nat.le_of_ble_eq_true rfl⟩) 0 rfl rfl _ rg_C rg_n rfl rfl (Nat.le_of_ble_eq_true rfl) ⟨Nat.zero_le _, Nat.zero_le _⟩ dX3_firstWorth_64) (wC g b y v5.2) (rg_put (wC_len.trans wC_len.symm)) (rg_len (wC_len.trans wC_len.symm)) 67 rfl ?_
      refine g_maxL C (List.mem_cons_of_mem _ wl_655) (List.mem_cons_of_mem _ wl_595) (List.mem_cons_of_mem _ wl_118) (List.mem_cons_of_mem _ wl_596) (Nat.le_of_ble_eq_true rfl) (Nat.le_of_ble_eq_true rfl) ⟨Nat.zero_le _, Nat.zero_le _⟩ dX3_firstWorth_67 70 rfl ?_
      refine g_lstore C dX3_firstWorth_70 [_, _, _, _, _, _, _, _, _] (Nat.le_of_ble_eq_true rfl) rfl rfl 72 rfl ?_
      refine g_iinc C dX3_firstWorth_72 rfl 1 ic_1 [_, _, _, _, _, _, _, _, _] (Nat.le_of_ble_eq_true rfl) rfl rfl 75 rfl ?_
      refine g_goto C dX3_firstWorth_75 48 (by decide) ?_
      refine g_lv [some (.ref (b 0)), some (.int x1), some (.int x2), some (.long x3), none, some (.int x5), some (.long (if v5.1 < x6 then x6 else v5.1)), none, some (.int (x8 + 1))] (lvLe.sm (lvLe.sm (lvLe.sm (lvLe.sm (lvLe.nn (lvLe.sm (lvLe.sm (lvLe.nn (lvLe.sm lvLe.nil))))))))) ?_
      exact ih _ _ _ rv_ hR hk
def f_X3_firstWorth_L18 (x1 : Int32) (x2 : Int32) (N_ : Nat) : Nat → Int64 → Int32 → ((Nat → Nat → Int32) × (Nat → Nat → Int64)) → Option (Int64 × Int32 × ((Nat → Nat → Int32) × (Nat → Nat → Int64)))
  | 0, _, _, _ => none
  | n_ + 1, x3, x5, S =>
    if 1 < x5 then
      some (x3, x5, S)
    else
      (f_X2_narrow (S.2 1) (S.2 0) (S.1 34 0) x1 x5 N_).bind fun v9 =>
      (f_X3_firstWorth_L48 x2 N_ N_ 0 0 (S.1, (kLS S.2 1 v9))).bind fun v10 =>
      f_X3_firstWorth_L18 x1 x2 N_ n_ (x3 + v10.1) (x5 + 1) v10.2.2
set_option maxRecDepth 100000 in
set_option maxHeartbeats 4000000 in
theorem k_X3_firstWorth_L18 (l : Launch) (g : gE) {p : Program} {e : Env} {s : State} {m : MethodId} {args : Array Value} {below : List Frame} {meth : Method} {c : Code} {Q : State → Prop} {A : Nat → Prop} {b : Nat → Nat}  (C : Cx p s m args c g A cX3_firstWorth 9 wA_X3_firstWorth RX3) (N_ : Nat) (x1 : Int32) (x2 : Int32) (y : Nat → Nat → Nat) : ∀ (n_ : Nat) (x3 : Int64) (x5 : Int32) (S : (Nat → Nat → Int32) × (Nat → Nat → Int64)) (rv_ : Int64 × Int32 × ((Nat → Nat → Int32) × (Nat → Nat → Int64))), f_X3_firstWorth_L18 x1 x2 N_ n_ x3 x5 S = some rv_ → (Gm p l e (headSpec wA_X3_firstWorth ({ frames := 5, cells := 0, slots := 0, locals := 123 } : Room)).room s m args below meth c Q g A 9 0 0 (wC g b y rv_.2.2) [some (.ref (b 0)), some (.int x1), some (.int x2), some (.long rv_.1), none, some (.int rv_.2.1), none, none, none] [] 89) → Gm p l e (headSpec wA_X3_firstWorth ({ frames := 5, cells := 0, slots := 0, locals := 123 } : Room)).room s m args below meth c Q g A 9 0 0 (wC g b y S) [some (.ref (b 0)), some (.int x1), some (.int x2), some (.long x3), none, some (.int x5), none, none, none] [] 18 := by
  intro n_
  induction n_ with
  | zero =>
    intro x3 x5 S rv_ hR
    simp [f_X3_firstWorth_L18] at hR
  | succ n_ ih =>
    intro x3 x5 S rv_ hR hk
    rw [f_X3_firstWorth_L18] at hR
    refine g_iload C dX3_firstWorth_18 rfl 20 rfl ?_
    refine g_iconst C dX3_firstWorth_20 1 ic_1 21 rfl ?_
    refine g_icmp_gt C dX3_firstWorth_21 hR 89 24 (by decide) rfl (fun c_21 hR => ?_) (fun c_21 hR => ?_)
    · obtain rfl := Option.some.inj hR
      refine g_lv [some (.ref (b 0)), some (.int x1), some (.int x2), some (.long x3), none, some (.int x5), none, none, none] (lvLe.sm (lvLe.sm (lvLe.sm (lvLe.sm (lvLe.nn (lvLe.sm (lvLe.nn (lvLe.nn (lvLe.nn lvLe.nil))))))))) ?_
      exact hk
    · refine g_aload_n C dX3_firstWorth_24 rfl 25 rfl ?_
      refine g_get (v := .ref (b 25)) C (hiC hiA_3) 0 rfl rfl 12 (by decide) (List.mem_cons_of_mem _ wl_34) rfl rfl dX3_firstWorth_25 28 rfl ?_
      refine g_aload_n C dX3_firstWorth_28 rfl 29 rfl ?_
      refine g_get (v := .ref (b 24)) C (hiC hiA_3) 0 rfl rfl 11 (by decide) (List.mem_cons_of_mem _ wl_33) rfl rfl dX3_firstWorth_29 32 rfl ?_
      refine g_aload_n C dX3_firstWorth_32 rfl 33 rfl ?_
      refine g_get (v := .ref (b 22)) C (hiC hiA_3) 0 rfl rfl 9 (by decide) (List.mem_cons_of_mem _ wl_28) rfl rfl dX3_firstWorth_33 36 rfl ?_
      refine g_iload_n C dX3_firstWorth_36 rfl 37 rfl ?_
      refine g_iload C dX3_firstWorth_37 rfl 39 rfl ?_
      obtain ⟨v9, hv9, hR⟩ := opt_b hR
      refine g_callV C (rn_VN C (k_X2_narrow l g (b 25) (b 28) (b 22) (b 24) (b 27) (S.2 1) (S.2 0) (S.1 34 0) (S.1 34 1) (S.1 34 2) (S.1 34 3) x1 x5 N_ v9 hv9) ⟨va_cnB 4 C.1.2.2.2.2 (gdA wl_417) rfl rfl rfl (nst C (List.mem_of_getElem? (i := 23) rfl)) (C.1.2.2.2.2 _ (List.mem_cons_of_mem _ wl_32)) hd_X2_narrow.2 ⟨Nat.le_of_ble_eq_true rfl, Nat.le_of_ble_eq_true rfl⟩, C.1.2.2.2.2 _ (List.mem_cons_of_mem _ wl_415), C.1.2.2.2.2 _ (List.mem_cons_of_mem _ wl_416)⟩ 40 rfl rfl [40, 43, 39, 42, 37] rfl rfl rfl rfl (Nat.le_of_ble_eq_true rfl) ⟨Nat.zero_le _, Nat.zero_le _⟩ dX3_firstWorth_39) (wC g b y (S.1, (kLS S.2 1 v9))) rfl rfl 42 rfl ?_
      refine g_lconst C dX3_firstWorth_42 0 (by decide) 43 rfl ?_
      refine g_lstore C dX3_firstWorth_43 [_, _, _, _, _, _, _, _, _] (Nat.le_of_ble_eq_true rfl) rfl rfl 45 rfl ?_
      refine g_iconst C dX3_firstWorth_45 0 ic_0 46 rfl ?_
      refine g_istore C dX3_firstWorth_46 [_, _, _, _, _, _, _, _, _] (Nat.le_of_ble_eq_true rfl) rfl rfl 48 rfl ?_
      refine g_lv [some (.ref (b 0)), some (.int x1), some (.int x2), some (.long x3), none, some (.int x5), some (.long 0), none, some (.int 0)] (lvLe.sm (lvLe.sm (lvLe.sm (lvLe.sm (lvLe.nn (lvLe.sm (lvLe.sm (lvLe.nn (lvLe.sm lvLe.nil))))))))) ?_
      obtain ⟨v10, hv10, hR⟩ := opt_b hR
      refine k_X3_firstWorth_L48 l g C N_ x1 x2 x3 x5 y N_ 0 0 (S.1, (kLS S.2 1 v9)) _ hv10 ?_
      refine g_lload_n C dX3_firstWorth_78 rfl 79 rfl ?_
      refine g_lload C dX3_firstWorth_79 rfl 81 rfl ?_
      refine g_ladd C dX3_firstWorth_81 82 rfl ?_
      refine g_lstore_n C dX3_firstWorth_82 [_, _, _, _, _, _, _, _, _] (Nat.le_of_ble_eq_true rfl) rfl rfl 83 rfl ?_
      refine g_iinc C dX3_firstWorth_83 rfl 1 ic_1 [_, _, _, _, _, _, _, _, _] (Nat.le_of_ble_eq_true rfl) rfl rfl 86 rfl ?_
      refine g_goto C dX3_firstWorth_86 18 (by decide) ?_
      refine g_lv [some (.ref (b 0)), some (.int x1), some (.int x2), some (.long (x3 + v10.1)), none, some (.int (x5 + 1)), none, none, none] (lvLe.sm (lvLe.sm (lvLe.sm (lvLe.sm (lvLe.nn (lvLe.sm (lvLe.nn (lvLe.nn (lvLe.nn lvLe.nil))))))))) ?_
      exact ih _ _ _ rv_ hR hk
def f_X3_firstWorth (S : (Nat → Nat → Int32) × (Nat → Nat → Int64)) (p0 : Int32) (p1 : Int32) (N_ : Nat) : Option (Int64 × ((Nat → Nat → Int32) × (Nat → Nat → Int64))) :=
  (f_X3_testWorth_0 S p0 p1 N_).bind fun v1 =>
  (f_X3_firstWorth_L18 p0 p1 N_ N_ (10 * v1.1) 0 v1.2).bind fun v11 =>
  some (v11.1, v11.2.2)
set_option maxRecDepth 100000 in
set_option maxHeartbeats 4000000 in
theorem k_X3_firstWorth (l : Launch) (g : gE) (b : Nat → Nat) (y : Nat → Nat → Nat) (S : (Nat → Nat → Int32) × (Nat → Nat → Int64)) (p0 : Int32) (p1 : Int32) (N_ : Nat) (R_ : Int64 × ((Nat → Nat → Int32) × (Nat → Nat → Int64))) (hR : f_X3_firstWorth S p0 p1 N_ = some R_) : FnL l g yX3_firstWorth wA_X3_firstWorth { frames := 5, cells := 0, slots := 0, locals := 123 } [.ref (b 0), .int p0, .int p1] (wC g b y S) R_.1 (wC g b y R_.2) := by
  refine fEntry (As := [.ref (b 0), .int p0, .int p1]) (maxL := 9) (ret := (some .long)) (by decide) rfl [some (.ref (b 0)), some (.int p0), some (.int p1), none, none, none, none, none, none] (Nat.le_of_ble_eq_true rfl) (lvInB.to (lvInB.sm (lvInB.sm (lvInB.sm (lvInB.nn (lvInB.nn (lvInB.nn (lvInB.nn (lvInB.nn (lvInB.nn lvInB.nil)))))))))) ?_
  intro p e s m below meth c A C hr hlocks hname hA
  have C : Cx p s m _ c g A cX3_firstWorth 9 wA_X3_firstWorth RX3 := C
  rw [f_X3_firstWorth] at hR
  refine g_ldc2 C dX3_firstWorth_0 (C.1.2.2.2.2 _ (List.mem_cons_of_mem _ wl_586)) 3 rfl ?_
  refine g_aload_n C dX3_firstWorth_3 rfl 4 rfl ?_
  refine g_iload_n C dX3_firstWorth_4 rfl 5 rfl ?_
  refine g_iload_n C dX3_firstWorth_5 rfl 6 rfl ?_
  refine g_aload_n C dX3_firstWorth_6 rfl 7 rfl ?_
  refine g_get (v := .ref (b 24)) C (hiC hiA_3) 0 rfl rfl 11 (by decide) (List.mem_cons_of_mem _ wl_33) rfl rfl dX3_firstWorth_7 10 rfl ?_
  obtain ⟨v1, hv1, hR⟩ := opt_b hR
  refine g_callL C (rn_V C (k_X3_testWorth_0 l g b y S p0 p1 N_ v1 hv1) (cwV 3 C.1.2.2.2.2 (gdV wl_590 wl_587 wl_588 wl_589 wl_2) rfl rfl rfl hd_X3_testWorth ⟨Nat.le_of_ble_eq_true rfl, Nat.le_of_ble_eq_true rfl⟩) 0 rfl rfl _ rg_C rg_n rfl rfl (Nat.le_of_ble_eq_true rfl) ⟨Nat.zero_le _, Nat.zero_le _⟩ dX3_firstWorth_10) (wC g b y v1.2) (rg_put (wC_len.trans wC_len.symm)) (rg_len (wC_len.trans wC_len.symm)) 13 rfl ?_
  refine g_lmul C dX3_firstWorth_13 14 rfl ?_
  refine g_lstore_n C dX3_firstWorth_14 [_, _, _, _, _, _, _, _, _] (Nat.le_of_ble_eq_true rfl) rfl rfl 15 rfl ?_
  refine g_iconst C dX3_firstWorth_15 0 ic_0 16 rfl ?_
  refine g_istore C dX3_firstWorth_16 [_, _, _, _, _, _, _, _, _] (Nat.le_of_ble_eq_true rfl) rfl rfl 18 rfl ?_
  refine g_lv [some (.ref (b 0)), some (.int p0), some (.int p1), some (.long (10 * v1.1)), none, some (.int 0), none, none, none] (lvLe.sm (lvLe.sm (lvLe.sm (lvLe.sm (lvLe.nn (lvLe.sm (lvLe.nn (lvLe.nn (lvLe.nn lvLe.nil))))))))) ?_
  obtain ⟨v11, hv11, hR⟩ := opt_b hR
  refine k_X3_firstWorth_L18 l g C N_ p0 p1 y N_ (10 * v1.1) 0 v1.2 _ hv11 ?_
  refine g_lload_n C dX3_firstWorth_89 rfl 90 rfl ?_
  obtain rfl := Option.some.inj hR
  exact g_lret C hr hlocks hA (by first | (dsimp only; done) | rfl) (by first | (dsimp only; done) | rfl) dX3_firstWorth_90
theorem hd_X3_personTenths : yX3_personTenths.cls = RX3 ∧ yX3_personTenths.cls ≠ "java/lang/invoke/MethodHandle" ∧ yX3_personTenths.cls ≠ "java/lang/invoke/VarHandle" ∧ (parseMethodDescriptor yX3_personTenths.desc).map (fun d => d.parameters.length) = some 2 := by decide +kernel
def f_X3_personTenths (S : (Nat → Nat → Int32) × (Nat → Nat → Int64)) (p0 : Int32) (p1 : Int32) : Int32 :=
  if p0 = 1 then
    0
  else
    if p0 = 2 then
      10
    else
      if p0 = 3 then
        (f_X3_heldTenths ((f_X0_offTenths (S.1 34 0) 0 p1) - 3))
      else
        if p0 = 4 then
          (f_X3_heldTenths ((f_X0_offTenths (S.1 34 0) 0 p1) + 3))
        else
          (f_X0_offTenths (S.1 34 0) 0 p1)
set_option maxRecDepth 100000 in
set_option maxHeartbeats 4000000 in
theorem k_X3_personTenths (l : Launch) (g : gE) (b : Nat → Nat) (y : Nat → Nat → Nat) (S : (Nat → Nat → Int32) × (Nat → Nat → Int64)) (p0 : Int32) (p1 : Int32) : FnI l g yX3_personTenths wA_X3_personTenths { frames := 3, cells := 0, slots := 0, locals := 59 } [.ref (b 0), .int p0, .int p1] (wC g b y S) (f_X3_personTenths S p0 p1) (wC g b y S) := by
  generalize hR : f_X3_personTenths S p0 p1 = R_
  refine fEntry (As := [.ref (b 0), .int p0, .int p1]) (maxL := 4) (ret := (some .int)) (by decide) rfl [some (.ref (b 0)), some (.int p0), some (.int p1), none] (Nat.le_of_ble_eq_true rfl) (lvInB.to (lvInB.sm (lvInB.sm (lvInB.sm (lvInB.nn lvInB.nil))))) ?_
  intro p e s m below meth c A C hr hlocks hname hA
  have C : Cx p s m _ c g A cX3_personTenths 4 wA_X3_personTenths RX3 := C
  rw [f_X3_personTenths] at hR
  refine g_aload_n C dX3_personTenths_0 rfl 1 rfl ?_
  refine g_get (v := .ref (b 22)) C (hiC hiA_3) 0 rfl rfl 9 (by decide) (List.mem_cons_of_mem _ wl_28) rfl rfl dX3_personTenths_1 4 rfl ?_
  refine g_iconst C dX3_personTenths_4 0 ic_0 5 rfl ?_
  refine g_iload_n C dX3_personTenths_5 rfl 6 rfl ?_
  refine g_callIR C (rn_VN C (k_X0_offTenths l g (b 22) (S.1 34 0) (S.1 34 1) (S.1 34 2) (S.1 34 3) 0 p1) ⟨va_cnB 2 C.1.2.2.2.2 (gdA wl_420) rfl rfl rfl (nst C (List.mem_of_getElem? (i := 16) rfl)) (C.1.2.2.2.2 _ (List.mem_cons_of_mem _ wl_27)) hd_X0_offTenths.2 ⟨Nat.le_of_ble_eq_true rfl, Nat.le_of_ble_eq_true rfl⟩, C.1.2.2.2.2 _ (List.mem_cons_of_mem _ wl_418), C.1.2.2.2.2 _ (List.mem_cons_of_mem _ wl_419)⟩ 37 rfl rfl [37] rfl rfl rfl rfl (Nat.le_of_ble_eq_true rfl) ⟨Nat.zero_le _, Nat.zero_le _⟩ dX3_personTenths_6) 9 rfl ?_
  refine g_istore_n C dX3_personTenths_9 [_, _, _, _] (Nat.le_of_ble_eq_true rfl) rfl rfl 10 rfl ?_
  refine g_iload_n C dX3_personTenths_10 rfl 11 rfl ?_
  rcases Decidable.em (p0 = 1) with c_11_1 | c_11_1
  · have hR := (if_pos c_11_1).symm.trans hR
    refine g_tableIn C dX3_personTenths_11 1 c_11_1 (29) 40 (by decide) ?_
    refine g_iconst C dX3_personTenths_40 0 ic_0 41 rfl ?_
    subst hR
    exact g_iret C hr hlocks hA (by first | (dsimp only; done) | rfl) (by first | (dsimp only; done) | rfl) dX3_personTenths_41
  · have hR := (if_neg c_11_1).symm.trans hR
    rcases Decidable.em (p0 = 2) with c_11_2 | c_11_2
    · have hR := (if_pos c_11_2).symm.trans hR
      refine g_tableIn C dX3_personTenths_11 2 c_11_2 (31) 42 (by decide) ?_
      refine g_bipush C dX3_personTenths_42 10 bp_10 44 rfl ?_
      subst hR
      exact g_iret C hr hlocks hA (by first | (dsimp only; done) | rfl) (by first | (dsimp only; done) | rfl) dX3_personTenths_44
    · have hR := (if_neg c_11_2).symm.trans hR
      rcases Decidable.em (p0 = 3) with c_11_3 | c_11_3
      · have hR := (if_pos c_11_3).symm.trans hR
        refine g_tableIn C dX3_personTenths_11 3 c_11_3 (34) 45 (by decide) ?_
        refine g_iload_n C dX3_personTenths_45 rfl 46 rfl ?_
        refine g_iconst C dX3_personTenths_46 3 ic_3 47 rfl ?_
        refine g_isub C dX3_personTenths_47 48 rfl ?_
        refine g_callIR C (rn_S C (k_X3_heldTenths l g ((f_X0_offTenths (S.1 34 0) 0 p1) - 3)) (va_cwS 1 C.1.2.2.2.2 (gdS wl_422 wl_740 wl_421 wl_2) rfl rfl rfl hd_X3_heldTenths.2 ⟨Nat.le_of_ble_eq_true rfl, Nat.le_of_ble_eq_true rfl⟩) [] rfl rfl rfl rfl (Nat.le_of_ble_eq_true rfl) ⟨Nat.zero_le _, Nat.zero_le _⟩ dX3_personTenths_48) 51 rfl ?_
        subst hR
        exact g_iret C hr hlocks hA (by first | (dsimp only; done) | rfl) (by first | (dsimp only; done) | rfl) dX3_personTenths_51
      · have hR := (if_neg c_11_3).symm.trans hR
        rcases Decidable.em (p0 = 4) with c_11_4 | c_11_4
        · have hR := (if_pos c_11_4).symm.trans hR
          refine g_tableIn C dX3_personTenths_11 4 c_11_4 (41) 52 (by decide) ?_
          refine g_iload_n C dX3_personTenths_52 rfl 53 rfl ?_
          refine g_iconst C dX3_personTenths_53 3 ic_3 54 rfl ?_
          refine g_iadd C dX3_personTenths_54 55 rfl ?_
          refine g_callIR C (rn_S C (k_X3_heldTenths l g ((f_X0_offTenths (S.1 34 0) 0 p1) + 3)) (va_cwS 1 C.1.2.2.2.2 (gdS wl_422 wl_740 wl_421 wl_2) rfl rfl rfl hd_X3_heldTenths.2 ⟨Nat.le_of_ble_eq_true rfl, Nat.le_of_ble_eq_true rfl⟩) [] rfl rfl rfl rfl (Nat.le_of_ble_eq_true rfl) ⟨Nat.zero_le _, Nat.zero_le _⟩ dX3_personTenths_55) 58 rfl ?_
          subst hR
          exact g_iret C hr hlocks hA (by first | (dsimp only; done) | rfl) (by first | (dsimp only; done) | rfl) dX3_personTenths_58
        · have hR := (if_neg c_11_4).symm.trans hR
          refine g_tableD C dX3_personTenths_11 [1, 2, 3, 4] (ne_c c_11_1 (ne_c c_11_2 (ne_c c_11_3 (ne_c c_11_4 ne_n)))) (by decide +kernel) (by decide +kernel) 59 (by decide) ?_
          refine g_iload_n C dX3_personTenths_59 rfl 60 rfl ?_
          subst hR
          exact g_iret C hr hlocks hA (by first | (dsimp only; done) | rfl) (by first | (dsimp only; done) | rfl) dX3_personTenths_60
theorem hd_X3_hear : yX3_hear.cls = RX3 ∧ yX3_hear.cls ≠ "java/lang/invoke/MethodHandle" ∧ yX3_hear.cls ≠ "java/lang/invoke/VarHandle" ∧ (parseMethodDescriptor yX3_hear.desc).map (fun d => d.parameters.length) = some 2 := by decide +kernel
def f_X3_hear_L2 (x1 : Int32) (x2 : Int32) (N_ : Nat) : Nat → Int32 → ((Nat → Nat → Int32) × (Nat → Nat → Int64)) → Option (Int32 × ((Nat → Nat → Int32) × (Nat → Nat → Int64)))
  | 0, _, _ => none
  | n_ + 1, x3, S =>
    if 5 ≤ x3 then
      some (x3, S)
    else
      if x2 = 1 then
        f_X3_hear_L2 x1 x2 N_ n_ (x3 + 1) (S.1, (kLS S.2 0 (f_X2_times (S.2 0) x3 (f_X3_personTenths S x1 x3))))
      else
        f_X3_hear_L2 x1 x2 N_ n_ (x3 + 1) (S.1, (kLS S.2 0 (f_X2_times (S.2 0) x3 (10 - (f_X3_personTenths S x1 x3)))))
set_option maxRecDepth 100000 in
set_option maxHeartbeats 4000000 in
theorem k_X3_hear_L2 (l : Launch) (g : gE) {p : Program} {e : Env} {s : State} {m : MethodId} {args : Array Value} {below : List Frame} {meth : Method} {c : Code} {Q : State → Prop} {A : Nat → Prop} {b : Nat → Nat}  (C : Cx p s m args c g A cX3_hear 5 wA_X3_hear RX3) (N_ : Nat) (x1 : Int32) (x2 : Int32) (y : Nat → Nat → Nat) : ∀ (n_ : Nat) (x3 : Int32) (S : (Nat → Nat → Int32) × (Nat → Nat → Int64)) (rv_ : Int32 × ((Nat → Nat → Int32) × (Nat → Nat → Int64))), f_X3_hear_L2 x1 x2 N_ n_ x3 S = some rv_ → (Gm p l e (headSpec wA_X3_hear ({ frames := 4, cells := 0, slots := 0, locals := 82 } : Room)).room s m args below meth c Q g A 5 0 0 (wC g b y rv_.2) [some (.ref (b 0)), some (.int x1), some (.int x2), some (.int rv_.1), none] [] 44) → Gm p l e (headSpec wA_X3_hear ({ frames := 4, cells := 0, slots := 0, locals := 82 } : Room)).room s m args below meth c Q g A 5 0 0 (wC g b y S) [some (.ref (b 0)), some (.int x1), some (.int x2), some (.int x3), none] [] 2 := by
  intro n_
  induction n_ with
  | zero =>
    intro x3 S rv_ hR
    simp [f_X3_hear_L2] at hR
  | succ n_ ih =>
    intro x3 S rv_ hR hk
    rw [f_X3_hear_L2] at hR
    refine g_iload_n C dX3_hear_2 rfl 3 rfl ?_
    refine g_iconst C dX3_hear_3 5 ic_5 4 rfl ?_
    refine g_icmp_ge C dX3_hear_4 hR 44 7 (by decide) rfl (fun c_4 hR => ?_) (fun c_4 hR => ?_)
    · obtain rfl := Option.some.inj hR
      refine g_lv [some (.ref (b 0)), some (.int x1), some (.int x2), some (.int x3), none] (lvLe.sm (lvLe.sm (lvLe.sm (lvLe.sm (lvLe.nn lvLe.nil))))) ?_
      exact hk
    · refine g_aload_n C dX3_hear_7 rfl 8 rfl ?_
      refine g_iload_n C dX3_hear_8 rfl 9 rfl ?_
      refine g_iload_n C dX3_hear_9 rfl 10 rfl ?_
      refine g_callIR C (rn_V C (k_X3_personTenths l g b y S x1 x3) (cwV 2 C.1.2.2.2.2 (gdV wl_739 wl_736 wl_737 wl_738 wl_2) rfl rfl rfl hd_X3_personTenths ⟨Nat.le_of_ble_eq_true rfl, Nat.le_of_ble_eq_true rfl⟩) 0 rfl rfl _ rg_C rg_n rfl rfl (Nat.le_of_ble_eq_true rfl) ⟨Nat.zero_le _, Nat.zero_le _⟩ dX3_hear_10) 13 rfl ?_
      refine g_istore C dX3_hear_13 [_, _, _, _, _] (Nat.le_of_ble_eq_true rfl) rfl rfl 15 rfl ?_
      refine g_aload_n C dX3_hear_15 rfl 16 rfl ?_
      refine g_get (v := .ref (b 24)) C (hiC hiA_3) 0 rfl rfl 11 (by decide) (List.mem_cons_of_mem _ wl_33) rfl rfl dX3_hear_16 19 rfl ?_
      refine g_iload_n C dX3_hear_19 rfl 20 rfl ?_
      refine g_iload_n C dX3_hear_20 rfl 21 rfl ?_
      refine g_iconst C dX3_hear_21 1 ic_1 22 rfl ?_
      refine g_icmp_ne C dX3_hear_22 hR 30 25 (by decide) rfl (fun c_22 hR => ?_) (fun c_22 hR => ?_)
      · refine g_bipush C dX3_hear_30 10 bp_10 32 rfl ?_
        refine g_iload C dX3_hear_32 rfl 34 rfl ?_
        refine g_isub C dX3_hear_34 35 rfl ?_
        refine g_callV C (rn_VN C (k_X2_times l g (b 24) (b 27) (S.2 0) x3 (10 - (f_X3_personTenths S x1 x3))) ⟨va_cnB 2 C.1.2.2.2.2 (gdA wl_743) rfl rfl rfl (nst C (List.mem_of_getElem? (i := 26) rfl)) (C.1.2.2.2.2 _ (List.mem_cons_of_mem _ wl_32)) hd_X2_times.2 ⟨Nat.le_of_ble_eq_true rfl, Nat.le_of_ble_eq_true rfl⟩, C.1.2.2.2.2 _ (List.mem_cons_of_mem _ wl_741), C.1.2.2.2.2 _ (List.mem_cons_of_mem _ wl_742)⟩ 39 rfl rfl [39, 42] rfl rfl rfl rfl (Nat.le_of_ble_eq_true rfl) ⟨Nat.zero_le _, Nat.zero_le _⟩ dX3_hear_35) (wC g b y (S.1, (kLS S.2 0 (f_X2_times (S.2 0) x3 (10 - (f_X3_personTenths S x1 x3)))))) rfl rfl 38 rfl ?_
        refine g_iinc C dX3_hear_38 rfl 1 ic_1 [_, _, _, _, _] (Nat.le_of_ble_eq_true rfl) rfl rfl 41 rfl ?_
        refine g_goto C dX3_hear_41 2 (by decide) ?_
        refine g_lv [some (.ref (b 0)), some (.int x1), some (.int x2), some (.int (x3 + 1)), none] (lvLe.sm (lvLe.sm (lvLe.sm (lvLe.sm (lvLe.nn lvLe.nil))))) ?_
        exact ih _ _ rv_ hR hk
      · refine g_iload C dX3_hear_25 rfl 27 rfl ?_
        refine g_goto C dX3_hear_27 35 (by decide) ?_
        refine g_callV C (rn_VN C (k_X2_times l g (b 24) (b 27) (S.2 0) x3 (f_X3_personTenths S x1 x3)) ⟨va_cnB 2 C.1.2.2.2.2 (gdA wl_743) rfl rfl rfl (nst C (List.mem_of_getElem? (i := 26) rfl)) (C.1.2.2.2.2 _ (List.mem_cons_of_mem _ wl_32)) hd_X2_times.2 ⟨Nat.le_of_ble_eq_true rfl, Nat.le_of_ble_eq_true rfl⟩, C.1.2.2.2.2 _ (List.mem_cons_of_mem _ wl_741), C.1.2.2.2.2 _ (List.mem_cons_of_mem _ wl_742)⟩ 39 rfl rfl [39, 42] rfl rfl rfl rfl (Nat.le_of_ble_eq_true rfl) ⟨Nat.zero_le _, Nat.zero_le _⟩ dX3_hear_35) (wC g b y (S.1, (kLS S.2 0 (f_X2_times (S.2 0) x3 (f_X3_personTenths S x1 x3))))) rfl rfl 38 rfl ?_
        refine g_iinc C dX3_hear_38 rfl 1 ic_1 [_, _, _, _, _] (Nat.le_of_ble_eq_true rfl) rfl rfl 41 rfl ?_
        refine g_goto C dX3_hear_41 2 (by decide) ?_
        refine g_lv [some (.ref (b 0)), some (.int x1), some (.int x2), some (.int (x3 + 1)), none] (lvLe.sm (lvLe.sm (lvLe.sm (lvLe.sm (lvLe.nn lvLe.nil))))) ?_
        exact ih _ _ rv_ hR hk
def f_X3_hear (S : (Nat → Nat → Int32) × (Nat → Nat → Int64)) (p0 : Int32) (p1 : Int32) (N_ : Nat) : Option (((Nat → Nat → Int32) × (Nat → Nat → Int64))) :=
  (f_X3_hear_L2 p0 p1 N_ N_ 0 S).bind fun v1 =>
  some v1.2
set_option maxRecDepth 100000 in
set_option maxHeartbeats 4000000 in
theorem k_X3_hear (l : Launch) (g : gE) (b : Nat → Nat) (y : Nat → Nat → Nat) (S : (Nat → Nat → Int32) × (Nat → Nat → Int64)) (p0 : Int32) (p1 : Int32) (N_ : Nat) (R_ : ((Nat → Nat → Int32) × (Nat → Nat → Int64))) (hR : f_X3_hear S p0 p1 N_ = some R_) : FnV l g yX3_hear wA_X3_hear { frames := 4, cells := 0, slots := 0, locals := 82 } [.ref (b 0), .int p0, .int p1] (wC g b y S)  (wC g b y R_) := by
  refine fEntry (As := [.ref (b 0), .int p0, .int p1]) (maxL := 5) (ret := none) (by decide) rfl [some (.ref (b 0)), some (.int p0), some (.int p1), none, none] (Nat.le_of_ble_eq_true rfl) (lvInB.to (lvInB.sm (lvInB.sm (lvInB.sm (lvInB.nn (lvInB.nn lvInB.nil)))))) ?_
  intro p e s m below meth c A C hr hlocks hname hA
  have C : Cx p s m _ c g A cX3_hear 5 wA_X3_hear RX3 := C
  rw [f_X3_hear] at hR
  refine g_iconst C dX3_hear_0 0 ic_0 1 rfl ?_
  refine g_istore_n C dX3_hear_1 [_, _, _, _, _] (Nat.le_of_ble_eq_true rfl) rfl rfl 2 rfl ?_
  refine g_lv [some (.ref (b 0)), some (.int p0), some (.int p1), some (.int 0), none] (lvLe.sm (lvLe.sm (lvLe.sm (lvLe.sm (lvLe.nn lvLe.nil))))) ?_
  obtain ⟨v1, hv1, hR⟩ := opt_b hR
  refine k_X3_hear_L2 l g C N_ p0 p1 y N_ 0 S _ hv1 ?_
  obtain rfl := Option.some.inj hR
  exact g_vret C hr hlocks hA (by first | (dsimp only; done) | rfl) dX3_hear_44
theorem hd_X3_toldRightly : yX3_toldRightly.cls = RX3 ∧ yX3_toldRightly.cls ≠ "java/lang/invoke/MethodHandle" ∧ yX3_toldRightly.cls ≠ "java/lang/invoke/VarHandle" ∧ (parseMethodDescriptor yX3_toldRightly.desc).map (fun d => d.parameters.length) = some 1 := by decide +kernel
def f_X3_toldRightly_L6 (x1 : Int32) (N_ : Nat) : Nat → Int32 → ((Nat → Nat → Int32) × (Nat → Nat → Int64)) → Option (Int32 × ((Nat → Nat → Int32) × (Nat → Nat → Int64)))
  | 0, _, _ => none
  | n_ + 1, x2, S =>
    if 5 ≤ x2 then
      some (x2, S)
    else
      if x2 < 2 then
        f_X3_toldRightly_L6 x1 N_ n_ (x2 + 1) (S.1, (kLS S.2 0 (f_X2_times (S.2 0) x2 (10 - (f_X3_personTenths S x1 x2)))))
      else
        f_X3_toldRightly_L6 x1 N_ n_ (x2 + 1) (S.1, (kLS S.2 0 (f_X2_times (S.2 0) x2 (f_X3_personTenths S x1 x2))))
set_option maxRecDepth 100000 in
set_option maxHeartbeats 4000000 in
theorem k_X3_toldRightly_L6 (l : Launch) (g : gE) {p : Program} {e : Env} {s : State} {m : MethodId} {args : Array Value} {below : List Frame} {meth : Method} {c : Code} {Q : State → Prop} {A : Nat → Prop} {b : Nat → Nat}  (C : Cx p s m args c g A cX3_toldRightly 4 wA_X3_toldRightly RX3) (N_ : Nat) (x1 : Int32) (y : Nat → Nat → Nat) : ∀ (n_ : Nat) (x2 : Int32) (S : (Nat → Nat → Int32) × (Nat → Nat → Int64)) (rv_ : Int32 × ((Nat → Nat → Int32) × (Nat → Nat → Int64))), f_X3_toldRightly_L6 x1 N_ n_ x2 S = some rv_ → (Gm p l e (headSpec wA_X3_toldRightly ({ frames := 5, cells := 0, slots := 0, locals := 107 } : Room)).room s m args below meth c Q g A 4 0 0 (wC g b y rv_.2) [some (.ref (b 0)), some (.int x1), some (.int rv_.1), none] [] 45) → Gm p l e (headSpec wA_X3_toldRightly ({ frames := 5, cells := 0, slots := 0, locals := 107 } : Room)).room s m args below meth c Q g A 4 0 0 (wC g b y S) [some (.ref (b 0)), some (.int x1), some (.int x2), none] [] 6 := by
  intro n_
  induction n_ with
  | zero =>
    intro x2 S rv_ hR
    simp [f_X3_toldRightly_L6] at hR
  | succ n_ ih =>
    intro x2 S rv_ hR hk
    rw [f_X3_toldRightly_L6] at hR
    refine g_iload_n C dX3_toldRightly_6 rfl 7 rfl ?_
    refine g_iconst C dX3_toldRightly_7 5 ic_5 8 rfl ?_
    refine g_icmp_ge C dX3_toldRightly_8 hR 45 11 (by decide) rfl (fun c_8 hR => ?_) (fun c_8 hR => ?_)
    · obtain rfl := Option.some.inj hR
      refine g_lv [some (.ref (b 0)), some (.int x1), some (.int x2), none] (lvLe.sm (lvLe.sm (lvLe.sm (lvLe.nn lvLe.nil)))) ?_
      exact hk
    · refine g_aload_n C dX3_toldRightly_11 rfl 12 rfl ?_
      refine g_iload_n C dX3_toldRightly_12 rfl 13 rfl ?_
      refine g_iload_n C dX3_toldRightly_13 rfl 14 rfl ?_
      refine g_callIR C (rn_V C (k_X3_personTenths l g b y S x1 x2) (cwV 2 C.1.2.2.2.2 (gdV wl_739 wl_736 wl_737 wl_738 wl_2) rfl rfl rfl hd_X3_personTenths ⟨Nat.le_of_ble_eq_true rfl, Nat.le_of_ble_eq_true rfl⟩) 0 rfl rfl _ rg_C rg_n rfl rfl (Nat.le_of_ble_eq_true rfl) ⟨Nat.zero_le _, Nat.zero_le _⟩ dX3_toldRightly_14) 17 rfl ?_
      refine g_istore_n C dX3_toldRightly_17 [_, _, _, _] (Nat.le_of_ble_eq_true rfl) rfl rfl 18 rfl ?_
      refine g_aload_n C dX3_toldRightly_18 rfl 19 rfl ?_
      refine g_get (v := .ref (b 24)) C (hiC hiA_3) 0 rfl rfl 11 (by decide) (List.mem_cons_of_mem _ wl_33) rfl rfl dX3_toldRightly_19 22 rfl ?_
      refine g_iload_n C dX3_toldRightly_22 rfl 23 rfl ?_
      refine g_iload_n C dX3_toldRightly_23 rfl 24 rfl ?_
      refine g_iconst C dX3_toldRightly_24 2 ic_2 25 rfl ?_
      refine g_icmp_lt C dX3_toldRightly_25 hR 32 28 (by decide) rfl (fun c_25 hR => ?_) (fun c_25 hR => ?_)
      · refine g_bipush C dX3_toldRightly_32 10 bp_10 34 rfl ?_
        refine g_iload_n C dX3_toldRightly_34 rfl 35 rfl ?_
        refine g_isub C dX3_toldRightly_35 36 rfl ?_
        refine g_callV C (rn_VN C (k_X2_times l g (b 24) (b 27) (S.2 0) x2 (10 - (f_X3_personTenths S x1 x2))) ⟨va_cnB 2 C.1.2.2.2.2 (gdA wl_743) rfl rfl rfl (nst C (List.mem_of_getElem? (i := 26) rfl)) (C.1.2.2.2.2 _ (List.mem_cons_of_mem _ wl_32)) hd_X2_times.2 ⟨Nat.le_of_ble_eq_true rfl, Nat.le_of_ble_eq_true rfl⟩, C.1.2.2.2.2 _ (List.mem_cons_of_mem _ wl_741), C.1.2.2.2.2 _ (List.mem_cons_of_mem _ wl_742)⟩ 39 rfl rfl [39, 42] rfl rfl rfl rfl (Nat.le_of_ble_eq_true rfl) ⟨Nat.zero_le _, Nat.zero_le _⟩ dX3_toldRightly_36) (wC g b y (S.1, (kLS S.2 0 (f_X2_times (S.2 0) x2 (10 - (f_X3_personTenths S x1 x2)))))) rfl rfl 39 rfl ?_
        refine g_iinc C dX3_toldRightly_39 rfl 1 ic_1 [_, _, _, _] (Nat.le_of_ble_eq_true rfl) rfl rfl 42 rfl ?_
        refine g_goto C dX3_toldRightly_42 6 (by decide) ?_
        refine g_lv [some (.ref (b 0)), some (.int x1), some (.int (x2 + 1)), none] (lvLe.sm (lvLe.sm (lvLe.sm (lvLe.nn lvLe.nil)))) ?_
        exact ih _ _ rv_ hR hk
      · refine g_iload_n C dX3_toldRightly_28 rfl 29 rfl ?_
        refine g_goto C dX3_toldRightly_29 36 (by decide) ?_
        refine g_callV C (rn_VN C (k_X2_times l g (b 24) (b 27) (S.2 0) x2 (f_X3_personTenths S x1 x2)) ⟨va_cnB 2 C.1.2.2.2.2 (gdA wl_743) rfl rfl rfl (nst C (List.mem_of_getElem? (i := 26) rfl)) (C.1.2.2.2.2 _ (List.mem_cons_of_mem _ wl_32)) hd_X2_times.2 ⟨Nat.le_of_ble_eq_true rfl, Nat.le_of_ble_eq_true rfl⟩, C.1.2.2.2.2 _ (List.mem_cons_of_mem _ wl_741), C.1.2.2.2.2 _ (List.mem_cons_of_mem _ wl_742)⟩ 39 rfl rfl [39, 42] rfl rfl rfl rfl (Nat.le_of_ble_eq_true rfl) ⟨Nat.zero_le _, Nat.zero_le _⟩ dX3_toldRightly_36) (wC g b y (S.1, (kLS S.2 0 (f_X2_times (S.2 0) x2 (f_X3_personTenths S x1 x2))))) rfl rfl 39 rfl ?_
        refine g_iinc C dX3_toldRightly_39 rfl 1 ic_1 [_, _, _, _] (Nat.le_of_ble_eq_true rfl) rfl rfl 42 rfl ?_
        refine g_goto C dX3_toldRightly_42 6 (by decide) ?_
        refine g_lv [some (.ref (b 0)), some (.int x1), some (.int (x2 + 1)), none] (lvLe.sm (lvLe.sm (lvLe.sm (lvLe.nn lvLe.nil)))) ?_
        exact ih _ _ rv_ hR hk
def f_X3_toldRightly (S : (Nat → Nat → Int32) × (Nat → Nat → Int64)) (p0 : Int32) (N_ : Nat) : Option (Int64 × ((Nat → Nat → Int32) × (Nat → Nat → Int64))) :=
  (f_X3_think S N_).bind fun v1 =>
  (f_X3_toldRightly_L6 p0 N_ N_ 0 v1).bind fun v2 =>
  (f_X2_sumOfAll (v2.2.2 0) N_).bind fun v3 =>
  some (v3, v2.2)
set_option maxRecDepth 100000 in
set_option maxHeartbeats 4000000 in
theorem k_X3_toldRightly (l : Launch) (g : gE) (b : Nat → Nat) (y : Nat → Nat → Nat) (S : (Nat → Nat → Int32) × (Nat → Nat → Int64)) (p0 : Int32) (N_ : Nat) (R_ : Int64 × ((Nat → Nat → Int32) × (Nat → Nat → Int64))) (hR : f_X3_toldRightly S p0 N_ = some R_) : FnL l g yX3_toldRightly wA_X3_toldRightly { frames := 5, cells := 0, slots := 0, locals := 107 } [.ref (b 0), .int p0] (wC g b y S) R_.1 (wC g b y R_.2) := by
  refine fEntry (As := [.ref (b 0), .int p0]) (maxL := 4) (ret := (some .long)) (by decide) rfl [some (.ref (b 0)), some (.int p0), none, none] (Nat.le_of_ble_eq_true rfl) (lvInB.to (lvInB.sm (lvInB.sm (lvInB.nn (lvInB.nn lvInB.nil))))) ?_
  intro p e s m below meth c A C hr hlocks hname hA
  have C : Cx p s m _ c g A cX3_toldRightly 4 wA_X3_toldRightly RX3 := C
  rw [f_X3_toldRightly] at hR
  refine g_aload_n C dX3_toldRightly_0 rfl 1 rfl ?_
  obtain ⟨v1, hv1, hR⟩ := opt_b hR
  refine g_callV C (rn_V C (k_X3_think l g b y S N_ v1 hv1) (cwV 0 C.1.2.2.2.2 (gdV wl_403 wl_400 wl_401 wl_402 wl_2) rfl rfl rfl hd_X3_think ⟨Nat.le_of_ble_eq_true rfl, Nat.le_of_ble_eq_true rfl⟩) 0 rfl rfl _ rg_C rg_n rfl rfl (Nat.le_of_ble_eq_true rfl) ⟨Nat.zero_le _, Nat.zero_le _⟩ dX3_toldRightly_1) (wC g b y v1) (rg_put (wC_len.trans wC_len.symm)) (rg_len (wC_len.trans wC_len.symm)) 4 rfl ?_
  refine g_iconst C dX3_toldRightly_4 0 ic_0 5 rfl ?_
  refine g_istore_n C dX3_toldRightly_5 [_, _, _, _] (Nat.le_of_ble_eq_true rfl) rfl rfl 6 rfl ?_
  refine g_lv [some (.ref (b 0)), some (.int p0), some (.int 0), none] (lvLe.sm (lvLe.sm (lvLe.sm (lvLe.nn lvLe.nil)))) ?_
  obtain ⟨v2, hv2, hR⟩ := opt_b hR
  refine k_X3_toldRightly_L6 l g C N_ p0 y N_ 0 v1 _ hv2 ?_
  refine g_aload_n C dX3_toldRightly_45 rfl 46 rfl ?_
  refine g_get (v := .ref (b 24)) C (hiC hiA_3) 0 rfl rfl 11 (by decide) (List.mem_cons_of_mem _ wl_33) rfl rfl dX3_toldRightly_46 49 rfl ?_
  obtain ⟨v3, hv3, hR⟩ := opt_b hR
  refine g_callLR C (rn_VN C (k_X2_sumOfAll l g (b 24) (b 27) (v2.2.2 0) N_ v3 hv3) ⟨va_cnB 0 C.1.2.2.2.2 (gdA wl_478) rfl rfl rfl (nst C (List.mem_of_getElem? (i := 18) rfl)) (C.1.2.2.2.2 _ (List.mem_cons_of_mem _ wl_32)) hd_X2_sumOfAll.2 ⟨Nat.le_of_ble_eq_true rfl, Nat.le_of_ble_eq_true rfl⟩, C.1.2.2.2.2 _ (List.mem_cons_of_mem _ wl_476), C.1.2.2.2.2 _ (List.mem_cons_of_mem _ wl_477)⟩ 39 rfl rfl [39, 42] rfl rfl rfl rfl (Nat.le_of_ble_eq_true rfl) ⟨Nat.zero_le _, Nat.zero_le _⟩ dX3_toldRightly_49) 52 rfl ?_
  obtain rfl := Option.some.inj hR
  exact g_lret C hr hlocks hA (by first | (dsimp only; done) | rfl) (by first | (dsimp only; done) | rfl) dX3_toldRightly_52
theorem hd_X3_larderCosts : yX3_larderCosts.cls = RX3 ∧ yX3_larderCosts.cls ≠ "java/lang/invoke/MethodHandle" ∧ yX3_larderCosts.cls ≠ "java/lang/invoke/VarHandle" ∧ (parseMethodDescriptor yX3_larderCosts.desc).map (fun d => d.parameters.length) = some 4 := by decide +kernel
def f_X3_larderCosts_L15 (x1 : Int32) (x2 : Int32) (x3 : Int32) (x4 : Int32) (S : (Nat → Nat → Int32) × (Nat → Nat → Int64)) (N_ : Nat) : Nat → Int32 → Int32 → Int32 → Int32 → Int32 → Option (Int32 × Int32 × Int32 × Int32 × Int32)
  | 0, _, _, _, _, _ => none
  | n_ + 1, x5, x6, x7, x8, x9 =>
    if x1 ≤ x9 then
      some (x5, x6, x7, x8, x9)
    else
      if x2 ≤ 0 then
        (some ((if x7 < (f_X3_at (S.1 32) 12 (x9 - x9 / 7 * 7)) then x7 else (f_X3_at (S.1 32) 12 (x9 - x9 / 7 * 7))) : Int32)).bind fun v25 =>
        (some ((if x6 < ((f_X3_at (S.1 32) 12 (x9 - x9 / 7 * 7)) - v25) then x6 else ((f_X3_at (S.1 32) 12 (x9 - x9 / 7 * 7)) - v25)) : Int32)).bind fun v26 =>
        (some ((if x5 < (((f_X3_at (S.1 32) 12 (x9 - x9 / 7 * 7)) - v25) - v26) then x5 else (((f_X3_at (S.1 32) 12 (x9 - x9 / 7 * 7)) - v25) - v26)) : Int32)).bind fun v27 =>
        (some ((x8 + ((9 * ((((f_X3_at (S.1 32) 12 (x9 - x9 / 7 * 7)) - v25) - v26) - v27)) + ((S.1 0 3) * (x7 - v25)))) : Int32)).bind fun v28 =>
        f_X3_larderCosts_L15 x1 x2 x3 x4 S N_ n_ 0 (x5 - v27) (x6 - v26) v28 (x9 + 1)
      else
        if x2 = 0 then none else
        if (x9 - x9 / x2 * x2) = 0 then
          (some ((if x7 < (f_X3_at (S.1 32) 12 (x9 - x9 / 7 * 7)) then x7 else (f_X3_at (S.1 32) 12 (x9 - x9 / 7 * 7))) : Int32)).bind fun v33 =>
          (some ((if x6 < ((f_X3_at (S.1 32) 12 (x9 - x9 / 7 * 7)) - v33) then x6 else ((f_X3_at (S.1 32) 12 (x9 - x9 / 7 * 7)) - v33)) : Int32)).bind fun v34 =>
          (some ((if (x5 + x3) < (((f_X3_at (S.1 32) 12 (x9 - x9 / 7 * 7)) - v33) - v34) then (x5 + x3) else (((f_X3_at (S.1 32) 12 (x9 - x9 / 7 * 7)) - v33) - v34)) : Int32)).bind fun v35 =>
          (some (((x8 + (x3 * x4)) + ((9 * ((((f_X3_at (S.1 32) 12 (x9 - x9 / 7 * 7)) - v33) - v34) - v35)) + ((S.1 0 3) * (x7 - v33)))) : Int32)).bind fun v36 =>
          f_X3_larderCosts_L15 x1 x2 x3 x4 S N_ n_ 0 ((x5 + x3) - v35) (x6 - v34) v36 (x9 + 1)
        else
          (some ((if x7 < (f_X3_at (S.1 32) 12 (x9 - x9 / 7 * 7)) then x7 else (f_X3_at (S.1 32) 12 (x9 - x9 / 7 * 7))) : Int32)).bind fun v29 =>
          (some ((if x6 < ((f_X3_at (S.1 32) 12 (x9 - x9 / 7 * 7)) - v29) then x6 else ((f_X3_at (S.1 32) 12 (x9 - x9 / 7 * 7)) - v29)) : Int32)).bind fun v30 =>
          (some ((if x5 < (((f_X3_at (S.1 32) 12 (x9 - x9 / 7 * 7)) - v29) - v30) then x5 else (((f_X3_at (S.1 32) 12 (x9 - x9 / 7 * 7)) - v29) - v30)) : Int32)).bind fun v31 =>
          (some ((x8 + ((9 * ((((f_X3_at (S.1 32) 12 (x9 - x9 / 7 * 7)) - v29) - v30) - v31)) + ((S.1 0 3) * (x7 - v29)))) : Int32)).bind fun v32 =>
          f_X3_larderCosts_L15 x1 x2 x3 x4 S N_ n_ 0 (x5 - v31) (x6 - v30) v32 (x9 + 1)
set_option maxRecDepth 100000 in
set_option maxHeartbeats 4000000 in
theorem k_X3_larderCosts_L15 (l : Launch) (g : gE) {p : Program} {e : Env} {s : State} {m : MethodId} {args : Array Value} {below : List Frame} {meth : Method} {c : Code} {Q : State → Prop} {A : Nat → Prop} {b : Nat → Nat}  (C : Cx p s m args c g A cX3_larderCosts 12 wA_X3_larderCosts RX3) (N_ : Nat) (x1 : Int32) (x2 : Int32) (x3 : Int32) (x4 : Int32) (y : Nat → Nat → Nat) (S : (Nat → Nat → Int32) × (Nat → Nat → Int64)) : ∀ (n_ : Nat) (x5 : Int32) (x6 : Int32) (x7 : Int32) (x8 : Int32) (x9 : Int32) (rv_ : Int32 × Int32 × Int32 × Int32 × Int32), f_X3_larderCosts_L15 x1 x2 x3 x4 S N_ n_ x5 x6 x7 x8 x9 = some rv_ → (Gm p l e (headSpec wA_X3_larderCosts ({ frames := 1, cells := 0, slots := 0, locals := 21 } : Room)).room s m args below meth c Q g A 12 0 0 (wC g b y S) [some (.ref (b 0)), some (.int x1), some (.int x2), some (.int x3), some (.int x4), some (.int rv_.1), some (.int rv_.2.1), some (.int rv_.2.2.1), some (.int rv_.2.2.2.1), some (.int rv_.2.2.2.2), none, none] [] 168) → Gm p l e (headSpec wA_X3_larderCosts ({ frames := 1, cells := 0, slots := 0, locals := 21 } : Room)).room s m args below meth c Q g A 12 0 0 (wC g b y S) [some (.ref (b 0)), some (.int x1), some (.int x2), some (.int x3), some (.int x4), some (.int x5), some (.int x6), some (.int x7), some (.int x8), some (.int x9), none, none] [] 15 := by
  intro n_
  induction n_ with
  | zero =>
    intro x5 x6 x7 x8 x9 rv_ hR
    simp [f_X3_larderCosts_L15] at hR
  | succ n_ ih =>
    intro x5 x6 x7 x8 x9 rv_ hR hk
    rw [f_X3_larderCosts_L15] at hR
    refine g_iload C dX3_larderCosts_15 rfl 17 rfl ?_
    refine g_iload_n C dX3_larderCosts_17 rfl 18 rfl ?_
    refine g_icmp_ge C dX3_larderCosts_18 hR 168 21 (by decide) rfl (fun c_18 hR => ?_) (fun c_18 hR => ?_)
    · obtain rfl := Option.some.inj hR
      refine g_lv [some (.ref (b 0)), some (.int x1), some (.int x2), some (.int x3), some (.int x4), some (.int x5), some (.int x6), some (.int x7), some (.int x8), some (.int x9), none, none] (lvLe.sm (lvLe.sm (lvLe.sm (lvLe.sm (lvLe.sm (lvLe.sm (lvLe.sm (lvLe.sm (lvLe.sm (lvLe.sm (lvLe.nn (lvLe.nn lvLe.nil)))))))))))) ?_
      exact hk
    · refine g_iload_n C dX3_larderCosts_21 rfl 22 rfl ?_
      refine g_if_le C dX3_larderCosts_22 hR 47 25 (by decide) rfl (fun c_22 hR => ?_) (fun c_22 hR => ?_)
      · refine g_aload_n C dX3_larderCosts_47 rfl 48 rfl ?_
        refine g_get (v := .ref (b 20)) C (hiC hiA_3) 0 rfl rfl 6 (by decide) (List.mem_cons_of_mem _ wl_22) rfl rfl dX3_larderCosts_48 51 rfl ?_
        refine g_iload C dX3_larderCosts_51 rfl 53 rfl ?_
        refine g_bipush C dX3_larderCosts_53 7 bp_7 55 rfl ?_
        refine g_irem C dX3_larderCosts_55 (by decide) 56 rfl ?_
        refine g_callIR C (rn_S C (k_X3_at l g (b 20) (S.1 32) 12 (x9 - x9 / 7 * 7) (by decide)) (va_cwS 2 C.1.2.2.2.2 (gdS wl_130 wl_128 wl_129 wl_2) rfl rfl rfl hd_X3_at.2 ⟨Nat.le_of_ble_eq_true rfl, Nat.le_of_ble_eq_true rfl⟩) [35] rfl rfl rfl rfl (Nat.le_of_ble_eq_true rfl) ⟨Nat.zero_le _, Nat.zero_le _⟩ dX3_larderCosts_56) 59 rfl ?_
        refine g_istore C dX3_larderCosts_59 [_, _, _, _, _, _, _, _, _, _, _, _] (Nat.le_of_ble_eq_true rfl) rfl rfl 61 rfl ?_
        refine g_iload C dX3_larderCosts_61 rfl 63 rfl ?_
        refine g_iload C dX3_larderCosts_63 rfl 65 rfl ?_
        refine g_min C (List.mem_cons_of_mem _ wl_423) (List.mem_cons_of_mem _ wl_179) (List.mem_cons_of_mem _ wl_118) (List.mem_cons_of_mem _ wl_180) (Nat.le_of_ble_eq_true rfl) (Nat.le_of_ble_eq_true rfl) ⟨Nat.zero_le _, Nat.zero_le _⟩ dX3_larderCosts_65 68 rfl ?_
        obtain ⟨v25, hv25, hR⟩ := opt_b hR
        refine g_topI (Option.some.inj hv25) ?_
        refine g_istore C dX3_larderCosts_68 [_, _, _, _, _, _, _, _, _, _, _, _] (Nat.le_of_ble_eq_true rfl) rfl rfl 70 rfl ?_
        refine g_iload C dX3_larderCosts_70 rfl 72 rfl ?_
        refine g_iload C dX3_larderCosts_72 rfl 74 rfl ?_
        refine g_isub C dX3_larderCosts_74 75 rfl ?_
        refine g_istore C dX3_larderCosts_75 [_, _, _, _, _, _, _, _, _, _, _, _] (Nat.le_of_ble_eq_true rfl) rfl rfl 77 rfl ?_
        refine g_iload C dX3_larderCosts_77 rfl 79 rfl ?_
        refine g_iload C dX3_larderCosts_79 rfl 81 rfl ?_
        refine g_isub C dX3_larderCosts_81 82 rfl ?_
        refine g_istore C dX3_larderCosts_82 [_, _, _, _, _, _, _, _, _, _, _, _] (Nat.le_of_ble_eq_true rfl) rfl rfl 84 rfl ?_
        refine g_iload C dX3_larderCosts_84 rfl 86 rfl ?_
        refine g_iload C dX3_larderCosts_86 rfl 88 rfl ?_
        refine g_min C (List.mem_cons_of_mem _ wl_423) (List.mem_cons_of_mem _ wl_179) (List.mem_cons_of_mem _ wl_118) (List.mem_cons_of_mem _ wl_180) (Nat.le_of_ble_eq_true rfl) (Nat.le_of_ble_eq_true rfl) ⟨Nat.zero_le _, Nat.zero_le _⟩ dX3_larderCosts_88 91 rfl ?_
        obtain ⟨v26, hv26, hR⟩ := opt_b hR
        refine g_topI (Option.some.inj hv26) ?_
        refine g_istore C dX3_larderCosts_91 [_, _, _, _, _, _, _, _, _, _, _, _] (Nat.le_of_ble_eq_true rfl) rfl rfl 93 rfl ?_
        refine g_iload C dX3_larderCosts_93 rfl 95 rfl ?_
        refine g_iload C dX3_larderCosts_95 rfl 97 rfl ?_
        refine g_isub C dX3_larderCosts_97 98 rfl ?_
        refine g_istore C dX3_larderCosts_98 [_, _, _, _, _, _, _, _, _, _, _, _] (Nat.le_of_ble_eq_true rfl) rfl rfl 100 rfl ?_
        refine g_iload C dX3_larderCosts_100 rfl 102 rfl ?_
        refine g_iload C dX3_larderCosts_102 rfl 104 rfl ?_
        refine g_isub C dX3_larderCosts_104 105 rfl ?_
        refine g_istore C dX3_larderCosts_105 [_, _, _, _, _, _, _, _, _, _, _, _] (Nat.le_of_ble_eq_true rfl) rfl rfl 107 rfl ?_
        refine g_iload C dX3_larderCosts_107 rfl 109 rfl ?_
        refine g_iload C dX3_larderCosts_109 rfl 111 rfl ?_
        refine g_min C (List.mem_cons_of_mem _ wl_423) (List.mem_cons_of_mem _ wl_179) (List.mem_cons_of_mem _ wl_118) (List.mem_cons_of_mem _ wl_180) (Nat.le_of_ble_eq_true rfl) (Nat.le_of_ble_eq_true rfl) ⟨Nat.zero_le _, Nat.zero_le _⟩ dX3_larderCosts_111 114 rfl ?_
        obtain ⟨v27, hv27, hR⟩ := opt_b hR
        refine g_topI (Option.some.inj hv27) ?_
        refine g_istore C dX3_larderCosts_114 [_, _, _, _, _, _, _, _, _, _, _, _] (Nat.le_of_ble_eq_true rfl) rfl rfl 116 rfl ?_
        refine g_iload C dX3_larderCosts_116 rfl 118 rfl ?_
        refine g_iload C dX3_larderCosts_118 rfl 120 rfl ?_
        refine g_isub C dX3_larderCosts_120 121 rfl ?_
        refine g_istore C dX3_larderCosts_121 [_, _, _, _, _, _, _, _, _, _, _, _] (Nat.le_of_ble_eq_true rfl) rfl rfl 123 rfl ?_
        refine g_iload C dX3_larderCosts_123 rfl 125 rfl ?_
        refine g_iload C dX3_larderCosts_125 rfl 127 rfl ?_
        refine g_isub C dX3_larderCosts_127 128 rfl ?_
        refine g_istore C dX3_larderCosts_128 [_, _, _, _, _, _, _, _, _, _, _, _] (Nat.le_of_ble_eq_true rfl) rfl rfl 130 rfl ?_
        refine g_iload C dX3_larderCosts_130 rfl 132 rfl ?_
        refine g_bipush C dX3_larderCosts_132 9 bp_9 134 rfl ?_
        refine g_iload C dX3_larderCosts_134 rfl 136 rfl ?_
        refine g_imul C dX3_larderCosts_136 137 rfl ?_
        refine g_aload_n C dX3_larderCosts_137 rfl 138 rfl ?_
        refine g_get (v := .ref (b 1)) C (hiC hiA_3) 0 rfl rfl 0 (by decide) (List.mem_cons_of_mem _ wl_15) rfl rfl dX3_larderCosts_138 141 rfl ?_
        refine g_getN (v := .int (S.1 0 3)) C (hiC hiA_1) 1 rfl rfl 7 (by decide) (List.mem_of_getElem? (i := 0) rfl) rfl rfl dX3_larderCosts_141 144 rfl ?_
        refine g_iload C dX3_larderCosts_144 rfl 146 rfl ?_
        refine g_imul C dX3_larderCosts_146 147 rfl ?_
        refine g_iadd C dX3_larderCosts_147 148 rfl ?_
        refine g_iadd C dX3_larderCosts_148 149 rfl ?_
        obtain ⟨v28, hv28, hR⟩ := opt_b hR
        refine g_topI (Option.some.inj hv28) ?_
        refine g_istore C dX3_larderCosts_149 [_, _, _, _, _, _, _, _, _, _, _, _] (Nat.le_of_ble_eq_true rfl) rfl rfl 151 rfl ?_
        refine g_iload C dX3_larderCosts_151 rfl 153 rfl ?_
        refine g_istore C dX3_larderCosts_153 [_, _, _, _, _, _, _, _, _, _, _, _] (Nat.le_of_ble_eq_true rfl) rfl rfl 155 rfl ?_
        refine g_iload C dX3_larderCosts_155 rfl 157 rfl ?_
        refine g_istore C dX3_larderCosts_157 [_, _, _, _, _, _, _, _, _, _, _, _] (Nat.le_of_ble_eq_true rfl) rfl rfl 159 rfl ?_
        refine g_iconst C dX3_larderCosts_159 0 ic_0 160 rfl ?_
        refine g_istore C dX3_larderCosts_160 [_, _, _, _, _, _, _, _, _, _, _, _] (Nat.le_of_ble_eq_true rfl) rfl rfl 162 rfl ?_
        refine g_iinc C dX3_larderCosts_162 rfl 1 ic_1 [_, _, _, _, _, _, _, _, _, _, _, _] (Nat.le_of_ble_eq_true rfl) rfl rfl 165 rfl ?_
        refine g_goto C dX3_larderCosts_165 15 (by decide) ?_
        refine g_lv [some (.ref (b 0)), some (.int x1), some (.int x2), some (.int x3), some (.int x4), some (.int 0), some (.int (x5 - v27)), some (.int (x6 - v26)), some (.int v28), some (.int (x9 + 1)), none, none] (lvLe.sm (lvLe.sm (lvLe.sm (lvLe.sm (lvLe.sm (lvLe.sm (lvLe.sm (lvLe.sm (lvLe.sm (lvLe.sm (lvLe.nn (lvLe.nn lvLe.nil)))))))))))) ?_
        exact ih _ _ _ _ _ rv_ hR hk
      · refine g_iload C dX3_larderCosts_25 rfl 27 rfl ?_
        refine g_iload_n C dX3_larderCosts_27 rfl 28 rfl ?_
        obtain ⟨h_28, hR⟩ := opt_n hR
        refine g_irem C dX3_larderCosts_28 h_28 29 rfl ?_
        refine g_if_ne C dX3_larderCosts_29 hR 47 32 (by decide) rfl (fun c_29 hR => ?_) (fun c_29 hR => ?_)
        · refine g_aload_n C dX3_larderCosts_47 rfl 48 rfl ?_
          refine g_get (v := .ref (b 20)) C (hiC hiA_3) 0 rfl rfl 6 (by decide) (List.mem_cons_of_mem _ wl_22) rfl rfl dX3_larderCosts_48 51 rfl ?_
          refine g_iload C dX3_larderCosts_51 rfl 53 rfl ?_
          refine g_bipush C dX3_larderCosts_53 7 bp_7 55 rfl ?_
          refine g_irem C dX3_larderCosts_55 (by decide) 56 rfl ?_
          refine g_callIR C (rn_S C (k_X3_at l g (b 20) (S.1 32) 12 (x9 - x9 / 7 * 7) (by decide)) (va_cwS 2 C.1.2.2.2.2 (gdS wl_130 wl_128 wl_129 wl_2) rfl rfl rfl hd_X3_at.2 ⟨Nat.le_of_ble_eq_true rfl, Nat.le_of_ble_eq_true rfl⟩) [35] rfl rfl rfl rfl (Nat.le_of_ble_eq_true rfl) ⟨Nat.zero_le _, Nat.zero_le _⟩ dX3_larderCosts_56) 59 rfl ?_
          refine g_istore C dX3_larderCosts_59 [_, _, _, _, _, _, _, _, _, _, _, _] (Nat.le_of_ble_eq_true rfl) rfl rfl 61 rfl ?_
          refine g_iload C dX3_larderCosts_61 rfl 63 rfl ?_
          refine g_iload C dX3_larderCosts_63 rfl 65 rfl ?_
          refine g_min C (List.mem_cons_of_mem _ wl_423) (List.mem_cons_of_mem _ wl_179) (List.mem_cons_of_mem _ wl_118) (List.mem_cons_of_mem _ wl_180) (Nat.le_of_ble_eq_true rfl) (Nat.le_of_ble_eq_true rfl) ⟨Nat.zero_le _, Nat.zero_le _⟩ dX3_larderCosts_65 68 rfl ?_
          obtain ⟨v29, hv29, hR⟩ := opt_b hR
          refine g_topI (Option.some.inj hv29) ?_
          refine g_istore C dX3_larderCosts_68 [_, _, _, _, _, _, _, _, _, _, _, _] (Nat.le_of_ble_eq_true rfl) rfl rfl 70 rfl ?_
          refine g_iload C dX3_larderCosts_70 rfl 72 rfl ?_
          refine g_iload C dX3_larderCosts_72 rfl 74 rfl ?_
          refine g_isub C dX3_larderCosts_74 75 rfl ?_
          refine g_istore C dX3_larderCosts_75 [_, _, _, _, _, _, _, _, _, _, _, _] (Nat.le_of_ble_eq_true rfl) rfl rfl 77 rfl ?_
          refine g_iload C dX3_larderCosts_77 rfl 79 rfl ?_
          refine g_iload C dX3_larderCosts_79 rfl 81 rfl ?_
          refine g_isub C dX3_larderCosts_81 82 rfl ?_
          refine g_istore C dX3_larderCosts_82 [_, _, _, _, _, _, _, _, _, _, _, _] (Nat.le_of_ble_eq_true rfl) rfl rfl 84 rfl ?_
          refine g_iload C dX3_larderCosts_84 rfl 86 rfl ?_
          refine g_iload C dX3_larderCosts_86 rfl 88 rfl ?_
          refine g_min C (List.mem_cons_of_mem _ wl_423) (List.mem_cons_of_mem _ wl_179) (List.mem_cons_of_mem _ wl_118) (List.mem_cons_of_mem _ wl_180) (Nat.le_of_ble_eq_true rfl) (Nat.le_of_ble_eq_true rfl) ⟨Nat.zero_le _, Nat.zero_le _⟩ dX3_larderCosts_88 91 rfl ?_
          obtain ⟨v30, hv30, hR⟩ := opt_b hR
          refine g_topI (Option.some.inj hv30) ?_
          refine g_istore C dX3_larderCosts_91 [_, _, _, _, _, _, _, _, _, _, _, _] (Nat.le_of_ble_eq_true rfl) rfl rfl 93 rfl ?_
          refine g_iload C dX3_larderCosts_93 rfl 95 rfl ?_
          refine g_iload C dX3_larderCosts_95 rfl 97 rfl ?_
          refine g_isub C dX3_larderCosts_97 98 rfl ?_
          refine g_istore C dX3_larderCosts_98 [_, _, _, _, _, _, _, _, _, _, _, _] (Nat.le_of_ble_eq_true rfl) rfl rfl 100 rfl ?_
          refine g_iload C dX3_larderCosts_100 rfl 102 rfl ?_
          refine g_iload C dX3_larderCosts_102 rfl 104 rfl ?_
          refine g_isub C dX3_larderCosts_104 105 rfl ?_
          refine g_istore C dX3_larderCosts_105 [_, _, _, _, _, _, _, _, _, _, _, _] (Nat.le_of_ble_eq_true rfl) rfl rfl 107 rfl ?_
          refine g_iload C dX3_larderCosts_107 rfl 109 rfl ?_
          refine g_iload C dX3_larderCosts_109 rfl 111 rfl ?_
          refine g_min C (List.mem_cons_of_mem _ wl_423) (List.mem_cons_of_mem _ wl_179) (List.mem_cons_of_mem _ wl_118) (List.mem_cons_of_mem _ wl_180) (Nat.le_of_ble_eq_true rfl) (Nat.le_of_ble_eq_true rfl) ⟨Nat.zero_le _, Nat.zero_le _⟩ dX3_larderCosts_111 114 rfl ?_
          obtain ⟨v31, hv31, hR⟩ := opt_b hR
          refine g_topI (Option.some.inj hv31) ?_
          refine g_istore C dX3_larderCosts_114 [_, _, _, _, _, _, _, _, _, _, _, _] (Nat.le_of_ble_eq_true rfl) rfl rfl 116 rfl ?_
          refine g_iload C dX3_larderCosts_116 rfl 118 rfl ?_
          refine g_iload C dX3_larderCosts_118 rfl 120 rfl ?_
          refine g_isub C dX3_larderCosts_120 121 rfl ?_
          refine g_istore C dX3_larderCosts_121 [_, _, _, _, _, _, _, _, _, _, _, _] (Nat.le_of_ble_eq_true rfl) rfl rfl 123 rfl ?_
          refine g_iload C dX3_larderCosts_123 rfl 125 rfl ?_
          refine g_iload C dX3_larderCosts_125 rfl 127 rfl ?_
          refine g_isub C dX3_larderCosts_127 128 rfl ?_
          refine g_istore C dX3_larderCosts_128 [_, _, _, _, _, _, _, _, _, _, _, _] (Nat.le_of_ble_eq_true rfl) rfl rfl 130 rfl ?_
          refine g_iload C dX3_larderCosts_130 rfl 132 rfl ?_
          refine g_bipush C dX3_larderCosts_132 9 bp_9 134 rfl ?_
          refine g_iload C dX3_larderCosts_134 rfl 136 rfl ?_
          refine g_imul C dX3_larderCosts_136 137 rfl ?_
          refine g_aload_n C dX3_larderCosts_137 rfl 138 rfl ?_
          refine g_get (v := .ref (b 1)) C (hiC hiA_3) 0 rfl rfl 0 (by decide) (List.mem_cons_of_mem _ wl_15) rfl rfl dX3_larderCosts_138 141 rfl ?_
          refine g_getN (v := .int (S.1 0 3)) C (hiC hiA_1) 1 rfl rfl 7 (by decide) (List.mem_of_getElem? (i := 0) rfl) rfl rfl dX3_larderCosts_141 144 rfl ?_
          refine g_iload C dX3_larderCosts_144 rfl 146 rfl ?_
          refine g_imul C dX3_larderCosts_146 147 rfl ?_
          refine g_iadd C dX3_larderCosts_147 148 rfl ?_
          refine g_iadd C dX3_larderCosts_148 149 rfl ?_
          obtain ⟨v32, hv32, hR⟩ := opt_b hR
          refine g_topI (Option.some.inj hv32) ?_
          refine g_istore C dX3_larderCosts_149 [_, _, _, _, _, _, _, _, _, _, _, _] (Nat.le_of_ble_eq_true rfl) rfl rfl 151 rfl ?_
          refine g_iload C dX3_larderCosts_151 rfl 153 rfl ?_
          refine g_istore C dX3_larderCosts_153 [_, _, _, _, _, _, _, _, _, _, _, _] (Nat.le_of_ble_eq_true rfl) rfl rfl 155 rfl ?_
          refine g_iload C dX3_larderCosts_155 rfl 157 rfl ?_
          refine g_istore C dX3_larderCosts_157 [_, _, _, _, _, _, _, _, _, _, _, _] (Nat.le_of_ble_eq_true rfl) rfl rfl 159 rfl ?_
          refine g_iconst C dX3_larderCosts_159 0 ic_0 160 rfl ?_
          refine g_istore C dX3_larderCosts_160 [_, _, _, _, _, _, _, _, _, _, _, _] (Nat.le_of_ble_eq_true rfl) rfl rfl 162 rfl ?_
          refine g_iinc C dX3_larderCosts_162 rfl 1 ic_1 [_, _, _, _, _, _, _, _, _, _, _, _] (Nat.le_of_ble_eq_true rfl) rfl rfl 165 rfl ?_
          refine g_goto C dX3_larderCosts_165 15 (by decide) ?_
          refine g_lv [some (.ref (b 0)), some (.int x1), some (.int x2), some (.int x3), some (.int x4), some (.int 0), some (.int (x5 - v31)), some (.int (x6 - v30)), some (.int v32), some (.int (x9 + 1)), none, none] (lvLe.sm (lvLe.sm (lvLe.sm (lvLe.sm (lvLe.sm (lvLe.sm (lvLe.sm (lvLe.sm (lvLe.sm (lvLe.sm (lvLe.nn (lvLe.nn lvLe.nil)))))))))))) ?_
          exact ih _ _ _ _ _ rv_ hR hk
        · refine g_iload C dX3_larderCosts_32 rfl 34 rfl ?_
          refine g_iload_n C dX3_larderCosts_34 rfl 35 rfl ?_
          refine g_iadd C dX3_larderCosts_35 36 rfl ?_
          refine g_istore C dX3_larderCosts_36 [_, _, _, _, _, _, _, _, _, _, _, _] (Nat.le_of_ble_eq_true rfl) rfl rfl 38 rfl ?_
          refine g_iload C dX3_larderCosts_38 rfl 40 rfl ?_
          refine g_iload_n C dX3_larderCosts_40 rfl 41 rfl ?_
          refine g_iload C dX3_larderCosts_41 rfl 43 rfl ?_
          refine g_imul C dX3_larderCosts_43 44 rfl ?_
          refine g_iadd C dX3_larderCosts_44 45 rfl ?_
          refine g_istore C dX3_larderCosts_45 [_, _, _, _, _, _, _, _, _, _, _, _] (Nat.le_of_ble_eq_true rfl) rfl rfl 47 rfl ?_
          refine g_aload_n C dX3_larderCosts_47 rfl 48 rfl ?_
          refine g_get (v := .ref (b 20)) C (hiC hiA_3) 0 rfl rfl 6 (by decide) (List.mem_cons_of_mem _ wl_22) rfl rfl dX3_larderCosts_48 51 rfl ?_
          refine g_iload C dX3_larderCosts_51 rfl 53 rfl ?_
          refine g_bipush C dX3_larderCosts_53 7 bp_7 55 rfl ?_
          refine g_irem C dX3_larderCosts_55 (by decide) 56 rfl ?_
          refine g_callIR C (rn_S C (k_X3_at l g (b 20) (S.1 32) 12 (x9 - x9 / 7 * 7) (by decide)) (va_cwS 2 C.1.2.2.2.2 (gdS wl_130 wl_128 wl_129 wl_2) rfl rfl rfl hd_X3_at.2 ⟨Nat.le_of_ble_eq_true rfl, Nat.le_of_ble_eq_true rfl⟩) [35] rfl rfl rfl rfl (Nat.le_of_ble_eq_true rfl) ⟨Nat.zero_le _, Nat.zero_le _⟩ dX3_larderCosts_56) 59 rfl ?_
          refine g_istore C dX3_larderCosts_59 [_, _, _, _, _, _, _, _, _, _, _, _] (Nat.le_of_ble_eq_true rfl) rfl rfl 61 rfl ?_
          refine g_iload C dX3_larderCosts_61 rfl 63 rfl ?_
          refine g_iload C dX3_larderCosts_63 rfl 65 rfl ?_
          refine g_min C (List.mem_cons_of_mem _ wl_423) (List.mem_cons_of_mem _ wl_179) (List.mem_cons_of_mem _ wl_118) (List.mem_cons_of_mem _ wl_180) (Nat.le_of_ble_eq_true rfl) (Nat.le_of_ble_eq_true rfl) ⟨Nat.zero_le _, Nat.zero_le _⟩ dX3_larderCosts_65 68 rfl ?_
          obtain ⟨v33, hv33, hR⟩ := opt_b hR
          refine g_topI (Option.some.inj hv33) ?_
          refine g_istore C dX3_larderCosts_68 [_, _, _, _, _, _, _, _, _, _, _, _] (Nat.le_of_ble_eq_true rfl) rfl rfl 70 rfl ?_
          refine g_iload C dX3_larderCosts_70 rfl 72 rfl ?_
          refine g_iload C dX3_larderCosts_72 rfl 74 rfl ?_
          refine g_isub C dX3_larderCosts_74 75 rfl ?_
          refine g_istore C dX3_larderCosts_75 [_, _, _, _, _, _, _, _, _, _, _, _] (Nat.le_of_ble_eq_true rfl) rfl rfl 77 rfl ?_
          refine g_iload C dX3_larderCosts_77 rfl 79 rfl ?_
          refine g_iload C dX3_larderCosts_79 rfl 81 rfl ?_
          refine g_isub C dX3_larderCosts_81 82 rfl ?_
          refine g_istore C dX3_larderCosts_82 [_, _, _, _, _, _, _, _, _, _, _, _] (Nat.le_of_ble_eq_true rfl) rfl rfl 84 rfl ?_
          refine g_iload C dX3_larderCosts_84 rfl 86 rfl ?_
          refine g_iload C dX3_larderCosts_86 rfl 88 rfl ?_
          refine g_min C (List.mem_cons_of_mem _ wl_423) (List.mem_cons_of_mem _ wl_179) (List.mem_cons_of_mem _ wl_118) (List.mem_cons_of_mem _ wl_180) (Nat.le_of_ble_eq_true rfl) (Nat.le_of_ble_eq_true rfl) ⟨Nat.zero_le _, Nat.zero_le _⟩ dX3_larderCosts_88 91 rfl ?_
          obtain ⟨v34, hv34, hR⟩ := opt_b hR
          refine g_topI (Option.some.inj hv34) ?_
          refine g_istore C dX3_larderCosts_91 [_, _, _, _, _, _, _, _, _, _, _, _] (Nat.le_of_ble_eq_true rfl) rfl rfl 93 rfl ?_
          refine g_iload C dX3_larderCosts_93 rfl 95 rfl ?_
          refine g_iload C dX3_larderCosts_95 rfl 97 rfl ?_
          refine g_isub C dX3_larderCosts_97 98 rfl ?_
          refine g_istore C dX3_larderCosts_98 [_, _, _, _, _, _, _, _, _, _, _, _] (Nat.le_of_ble_eq_true rfl) rfl rfl 100 rfl ?_
          refine g_iload C dX3_larderCosts_100 rfl 102 rfl ?_
          refine g_iload C dX3_larderCosts_102 rfl 104 rfl ?_
          refine g_isub C dX3_larderCosts_104 105 rfl ?_
          refine g_istore C dX3_larderCosts_105 [_, _, _, _, _, _, _, _, _, _, _, _] (Nat.le_of_ble_eq_true rfl) rfl rfl 107 rfl ?_
          refine g_iload C dX3_larderCosts_107 rfl 109 rfl ?_
          refine g_iload C dX3_larderCosts_109 rfl 111 rfl ?_
          refine g_min C (List.mem_cons_of_mem _ wl_423) (List.mem_cons_of_mem _ wl_179) (List.mem_cons_of_mem _ wl_118) (List.mem_cons_of_mem _ wl_180) (Nat.le_of_ble_eq_true rfl) (Nat.le_of_ble_eq_true rfl) ⟨Nat.zero_le _, Nat.zero_le _⟩ dX3_larderCosts_111 114 rfl ?_
          obtain ⟨v35, hv35, hR⟩ := opt_b hR
          refine g_topI (Option.some.inj hv35) ?_
          refine g_istore C dX3_larderCosts_114 [_, _, _, _, _, _, _, _, _, _, _, _] (Nat.le_of_ble_eq_true rfl) rfl rfl 116 rfl ?_
          refine g_iload C dX3_larderCosts_116 rfl 118 rfl ?_
          refine g_iload C dX3_larderCosts_118 rfl 120 rfl ?_
          refine g_isub C dX3_larderCosts_120 121 rfl ?_
          refine g_istore C dX3_larderCosts_121 [_, _, _, _, _, _, _, _, _, _, _, _] (Nat.le_of_ble_eq_true rfl) rfl rfl 123 rfl ?_
          refine g_iload C dX3_larderCosts_123 rfl 125 rfl ?_
          refine g_iload C dX3_larderCosts_125 rfl 127 rfl ?_
          refine g_isub C dX3_larderCosts_127 128 rfl ?_
          refine g_istore C dX3_larderCosts_128 [_, _, _, _, _, _, _, _, _, _, _, _] (Nat.le_of_ble_eq_true rfl) rfl rfl 130 rfl ?_
          refine g_iload C dX3_larderCosts_130 rfl 132 rfl ?_
          refine g_bipush C dX3_larderCosts_132 9 bp_9 134 rfl ?_
          refine g_iload C dX3_larderCosts_134 rfl 136 rfl ?_
          refine g_imul C dX3_larderCosts_136 137 rfl ?_
          refine g_aload_n C dX3_larderCosts_137 rfl 138 rfl ?_
          refine g_get (v := .ref (b 1)) C (hiC hiA_3) 0 rfl rfl 0 (by decide) (List.mem_cons_of_mem _ wl_15) rfl rfl dX3_larderCosts_138 141 rfl ?_
          refine g_getN (v := .int (S.1 0 3)) C (hiC hiA_1) 1 rfl rfl 7 (by decide) (List.mem_of_getElem? (i := 0) rfl) rfl rfl dX3_larderCosts_141 144 rfl ?_
          refine g_iload C dX3_larderCosts_144 rfl 146 rfl ?_
          refine g_imul C dX3_larderCosts_146 147 rfl ?_
          refine g_iadd C dX3_larderCosts_147 148 rfl ?_
          refine g_iadd C dX3_larderCosts_148 149 rfl ?_
          obtain ⟨v36, hv36, hR⟩ := opt_b hR
          refine g_topI (Option.some.inj hv36) ?_
          refine g_istore C dX3_larderCosts_149 [_, _, _, _, _, _, _, _, _, _, _, _] (Nat.le_of_ble_eq_true rfl) rfl rfl 151 rfl ?_
          refine g_iload C dX3_larderCosts_151 rfl 153 rfl ?_
          refine g_istore C dX3_larderCosts_153 [_, _, _, _, _, _, _, _, _, _, _, _] (Nat.le_of_ble_eq_true rfl) rfl rfl 155 rfl ?_
          refine g_iload C dX3_larderCosts_155 rfl 157 rfl ?_
          refine g_istore C dX3_larderCosts_157 [_, _, _, _, _, _, _, _, _, _, _, _] (Nat.le_of_ble_eq_true rfl) rfl rfl 159 rfl ?_
          refine g_iconst C dX3_larderCosts_159 0 ic_0 160 rfl ?_
          refine g_istore C dX3_larderCosts_160 [_, _, _, _, _, _, _, _, _, _, _, _] (Nat.le_of_ble_eq_true rfl) rfl rfl 162 rfl ?_
          refine g_iinc C dX3_larderCosts_162 rfl 1 ic_1 [_, _, _, _, _, _, _, _, _, _, _, _] (Nat.le_of_ble_eq_true rfl) rfl rfl 165 rfl ?_
          refine g_goto C dX3_larderCosts_165 15 (by decide) ?_
          refine g_lv [some (.ref (b 0)), some (.int x1), some (.int x2), some (.int x3), some (.int x4), some (.int 0), some (.int ((x5 + x3) - v35)), some (.int (x6 - v34)), some (.int v36), some (.int (x9 + 1)), none, none] (lvLe.sm (lvLe.sm (lvLe.sm (lvLe.sm (lvLe.sm (lvLe.sm (lvLe.sm (lvLe.sm (lvLe.sm (lvLe.sm (lvLe.nn (lvLe.nn lvLe.nil)))))))))))) ?_
          exact ih _ _ _ _ _ rv_ hR hk
def f_X3_larderCosts (S : (Nat → Nat → Int32) × (Nat → Nat → Int64)) (p0 : Int32) (p1 : Int32) (p2 : Int32) (p3 : Int32) (N_ : Nat) : Option (Int32) :=
  (f_X3_larderCosts_L15 p0 p1 p2 p3 S N_ N_ 0 0 0 0 0).bind fun v37 =>
  some v37.2.2.2.1
set_option maxRecDepth 100000 in
set_option maxHeartbeats 4000000 in
theorem k_X3_larderCosts (l : Launch) (g : gE) (b : Nat → Nat) (y : Nat → Nat → Nat) (S : (Nat → Nat → Int32) × (Nat → Nat → Int64)) (p0 : Int32) (p1 : Int32) (p2 : Int32) (p3 : Int32) (N_ : Nat) (R_ : Int32) (hR : f_X3_larderCosts S p0 p1 p2 p3 N_ = some R_) : FnI l g yX3_larderCosts wA_X3_larderCosts { frames := 1, cells := 0, slots := 0, locals := 21 } [.ref (b 0), .int p0, .int p1, .int p2, .int p3] (wC g b y S) R_ (wC g b y S) := by
  refine fEntry (As := [.ref (b 0), .int p0, .int p1, .int p2, .int p3]) (maxL := 12) (ret := (some .int)) (by decide) rfl [some (.ref (b 0)), some (.int p0), some (.int p1), some (.int p2), some (.int p3), none, none, none, none, none, none, none] (Nat.le_of_ble_eq_true rfl) (lvInB.to (lvInB.sm (lvInB.sm (lvInB.sm (lvInB.sm (lvInB.sm (lvInB.nn (lvInB.nn (lvInB.nn (lvInB.nn (lvInB.nn (lvInB.nn (lvInB.nn lvInB.nil))))))))))))) ?_
  intro p e s m below meth c A C hr hlocks hname hA
  have C : Cx p s m _ c g A cX3_larderCosts 12 wA_X3_larderCosts RX3 := C
  rw [f_X3_larderCosts] at hR
  refine g_iconst C dX3_larderCosts_0 0 ic_0 1 rfl ?_
  refine g_istore C dX3_larderCosts_1 [_, _, _, _, _, _, _, _, _, _, _, _] (Nat.le_of_ble_eq_true rfl) rfl rfl 3 rfl ?_
  refine g_iconst C dX3_larderCosts_3 0 ic_0 4 rfl ?_
  refine g_istore C dX3_larderCosts_4 [_, _, _, _, _, _, _, _, _, _, _, _] (Nat.le_of_ble_eq_true rfl) rfl rfl 6 rfl ?_
  refine g_iconst C dX3_larderCosts_6 0 ic_0 7 rfl ?_
  refine g_istore C dX3_larderCosts_7 [_, _, _, _, _, _, _, _, _, _, _, _] (Nat.le_of_ble_eq_true rfl) rfl rfl 9 rfl ?_
  refine g_iconst C dX3_larderCosts_9 0 ic_0 10 rfl ?_
  refine g_istore C dX3_larderCosts_10 [_, _, _, _, _, _, _, _, _, _, _, _] (Nat.le_of_ble_eq_true rfl) rfl rfl 12 rfl ?_
  refine g_iconst C dX3_larderCosts_12 0 ic_0 13 rfl ?_
  refine g_istore C dX3_larderCosts_13 [_, _, _, _, _, _, _, _, _, _, _, _] (Nat.le_of_ble_eq_true rfl) rfl rfl 15 rfl ?_
  refine g_lv [some (.ref (b 0)), some (.int p0), some (.int p1), some (.int p2), some (.int p3), some (.int 0), some (.int 0), some (.int 0), some (.int 0), some (.int 0), none, none] (lvLe.sm (lvLe.sm (lvLe.sm (lvLe.sm (lvLe.sm (lvLe.sm (lvLe.sm (lvLe.sm (lvLe.sm (lvLe.sm (lvLe.nn (lvLe.nn lvLe.nil)))))))))))) ?_
  obtain ⟨v37, hv37, hR⟩ := opt_b hR
  refine k_X3_larderCosts_L15 l g C N_ p0 p1 p2 p3 y S N_ 0 0 0 0 0 _ hv37 ?_
  refine g_iload C dX3_larderCosts_168 rfl 170 rfl ?_
  obtain rfl := Option.some.inj hR
  exact g_iret C hr hlocks hA (by first | (dsimp only; done) | rfl) (by first | (dsimp only; done) | rfl) dX3_larderCosts_170
theorem hd_X3_trueNet : yX3_trueNet.cls = RX3 ∧ yX3_trueNet.cls ≠ "java/lang/invoke/MethodHandle" ∧ yX3_trueNet.cls ≠ "java/lang/invoke/VarHandle" ∧ (parseMethodDescriptor yX3_trueNet.desc).map (fun d => d.parameters.length) = some 3 := by decide +kernel
def f_X3_trueNet (S : (Nat → Nat → Int32) × (Nat → Nat → Int64)) (ix : Nat) (p1 : Int32) (p2 : Int32) : Int32 :=
  ((S.1 7 ix) * (f_X1_netOf (S.1 0 3) p1 (f_X0_trueStage (S.1 8 ix)) p2))
set_option maxRecDepth 100000 in
set_option maxHeartbeats 4000000 in
theorem k_X3_trueNet (l : Launch) (g : gE) (b : Nat → Nat) (y : Nat → Nat → Nat) (S : (Nat → Nat → Int32) × (Nat → Nat → Int64)) (ix : Nat) (p1 : Int32) (p2 : Int32) (hx : ix < 5) : FnI l g yX3_trueNet wA_X3_trueNet { frames := 2, cells := 0, slots := 0, locals := 46 } [.ref (b 0), .ref (y 0 ix), .int p1, .int p2] (wC g b y S) (f_X3_trueNet S ix p1 p2) (wC g b y S) := by
  generalize hR : f_X3_trueNet S ix p1 p2 = R_
  refine fEntry (As := [.ref (b 0), .ref (y 0 ix), .int p1, .int p2]) (maxL := 4) (ret := (some .int)) (by decide) rfl [some (.ref (b 0)), some (.ref (y 0 ix)), some (.int p1), some (.int p2)] (Nat.le_of_ble_eq_true rfl) (lvInB.to (lvInB.sm (lvInB.sm (lvInB.sm (lvInB.sm lvInB.nil))))) ?_
  intro p e s m below meth c A C hr hlocks hname hA
  have C : Cx p s m _ c g A cX3_trueNet 4 wA_X3_trueNet RX3 := C
  rw [f_X3_trueNet] at hR
  refine g_aload_n C dX3_trueNet_0 rfl 1 rfl ?_
  refine g_getN (v := .int (S.1 7 ix)) C (hiC hiA_0) (7 + ix) (wC_jug hx) rfl 2 (by decide) (List.mem_of_getElem? (i := 3) rfl) rfl rfl dX3_trueNet_1 4 rfl ?_
  refine g_aload_n C dX3_trueNet_4 rfl 5 rfl ?_
  refine g_get (v := .ref (b 1)) C (hiC hiA_3) 0 rfl rfl 0 (by decide) (List.mem_cons_of_mem _ wl_15) rfl rfl dX3_trueNet_5 8 rfl ?_
  refine g_iload_n C dX3_trueNet_8 rfl 9 rfl ?_
  refine g_aload_n C dX3_trueNet_9 rfl 10 rfl ?_
  refine g_callIR C (rn_VN C (k_X0_trueStage l g (y 0 ix) (S.1 5 ix) (S.1 6 ix) (S.1 7 ix) (S.1 8 ix)) ⟨va_cnB 0 C.1.2.2.2.2 (gdA wl_303) rfl rfl rfl (nst C (List.mem_of_getElem? (i := 9) rfl)) (C.1.2.2.2.2 _ (List.mem_cons_of_mem _ wl_27)) hd_X0_trueStage.2 ⟨Nat.le_of_ble_eq_true rfl, Nat.le_of_ble_eq_true rfl⟩, C.1.2.2.2.2 _ (List.mem_cons_of_mem _ wl_301), C.1.2.2.2.2 _ (List.mem_cons_of_mem _ wl_302)⟩ (7 + ix) (wC_jug hx) rfl [7 + ix] (hC_c (wC_jug hx) hC_n) nd_1 rfl rfl (Nat.le_of_ble_eq_true rfl) ⟨Nat.zero_le _, Nat.zero_le _⟩ dX3_trueNet_10) 13 rfl ?_
  refine g_iload_n C dX3_trueNet_13 rfl 14 rfl ?_
  refine g_callIR C (rn_VN C (k_X1_netOf l g (b 1) (b 2) (b 3) (b 4) (b 5) (b 6) (S.1 0 0) (S.1 0 1) (S.1 0 2) (S.1 0 3) (S.1 0 4) p1 (f_X0_trueStage (S.1 8 ix)) p2) ⟨va_cnB 3 C.1.2.2.2.2 (gdA wl_517) rfl rfl rfl (nst C (List.mem_of_getElem? (i := 28) rfl)) (C.1.2.2.2.2 _ (List.mem_cons_of_mem _ wl_14)) hd_X1_netOf.2 ⟨Nat.le_of_ble_eq_true rfl, Nat.le_of_ble_eq_true rfl⟩, C.1.2.2.2.2 _ (List.mem_cons_of_mem _ wl_515), C.1.2.2.2.2 _ (List.mem_cons_of_mem _ wl_516)⟩ 1 rfl rfl [1] rfl rfl rfl rfl (Nat.le_of_ble_eq_true rfl) ⟨Nat.zero_le _, Nat.zero_le _⟩ dX3_trueNet_14) 17 rfl ?_
  refine g_imul C dX3_trueNet_17 18 rfl ?_
  subst hR
  exact g_iret C hr hlocks hA (by first | (dsimp only; done) | rfl) (by first | (dsimp only; done) | rfl) dX3_trueNet_18
def f_X3_trueNet_m (S : (Nat → Nat → Int32) × (Nat → Nat → Int64)) (p1 : Int32) (p2 : Int32) : Int32 :=
  ((S.1 35 2) * (f_X1_netOf (S.1 0 3) p1 (f_X0_trueStage (S.1 35 3)) p2))
set_option maxRecDepth 100000 in
set_option maxHeartbeats 4000000 in
theorem k_X3_trueNet_m (l : Launch) (g : gE) (b : Nat → Nat) (y : Nat → Nat → Nat) (S : (Nat → Nat → Int32) × (Nat → Nat → Int64)) (p1 : Int32) (p2 : Int32) : FnI l g yX3_trueNet wA_X3_trueNet { frames := 2, cells := 0, slots := 0, locals := 46 } [.ref (b 0), .ref (b 23), .int p1, .int p2] (wC g b y S) (f_X3_trueNet_m S p1 p2) (wC g b y S) := by
  generalize hR : f_X3_trueNet_m S p1 p2 = R_
  refine fEntry (As := [.ref (b 0), .ref (b 23), .int p1, .int p2]) (maxL := 4) (ret := (some .int)) (by decide) rfl [some (.ref (b 0)), some (.ref (b 23)), some (.int p1), some (.int p2)] (Nat.le_of_ble_eq_true rfl) (lvInB.to (lvInB.sm (lvInB.sm (lvInB.sm (lvInB.sm lvInB.nil))))) ?_
  intro p e s m below meth c A C hr hlocks hname hA
  have C : Cx p s m _ c g A cX3_trueNet 4 wA_X3_trueNet RX3 := C
  rw [f_X3_trueNet_m] at hR
  refine g_aload_n C dX3_trueNet_0 rfl 1 rfl ?_
  refine g_getN (v := .int (S.1 35 2)) C (hiC hiA_0) 38 rfl rfl 2 (by decide) (List.mem_of_getElem? (i := 3) rfl) rfl rfl dX3_trueNet_1 4 rfl ?_
  refine g_aload_n C dX3_trueNet_4 rfl 5 rfl ?_
  refine g_get (v := .ref (b 1)) C (hiC hiA_3) 0 rfl rfl 0 (by decide) (List.mem_cons_of_mem _ wl_15) rfl rfl dX3_trueNet_5 8 rfl ?_
  refine g_iload_n C dX3_trueNet_8 rfl 9 rfl ?_
  refine g_aload_n C dX3_trueNet_9 rfl 10 rfl ?_
  refine g_callIR C (rn_VN C (k_X0_trueStage l g (b 23) (S.1 35 0) (S.1 35 1) (S.1 35 2) (S.1 35 3)) ⟨va_cnB 0 C.1.2.2.2.2 (gdA wl_303) rfl rfl rfl (nst C (List.mem_of_getElem? (i := 9) rfl)) (C.1.2.2.2.2 _ (List.mem_cons_of_mem _ wl_27)) hd_X0_trueStage.2 ⟨Nat.le_of_ble_eq_true rfl, Nat.le_of_ble_eq_true rfl⟩, C.1.2.2.2.2 _ (List.mem_cons_of_mem _ wl_301), C.1.2.2.2.2 _ (List.mem_cons_of_mem _ wl_302)⟩ 38 rfl rfl [38] rfl rfl rfl rfl (Nat.le_of_ble_eq_true rfl) ⟨Nat.zero_le _, Nat.zero_le _⟩ dX3_trueNet_10) 13 rfl ?_
  refine g_iload_n C dX3_trueNet_13 rfl 14 rfl ?_
  refine g_callIR C (rn_VN C (k_X1_netOf l g (b 1) (b 2) (b 3) (b 4) (b 5) (b 6) (S.1 0 0) (S.1 0 1) (S.1 0 2) (S.1 0 3) (S.1 0 4) p1 (f_X0_trueStage (S.1 35 3)) p2) ⟨va_cnB 3 C.1.2.2.2.2 (gdA wl_517) rfl rfl rfl (nst C (List.mem_of_getElem? (i := 28) rfl)) (C.1.2.2.2.2 _ (List.mem_cons_of_mem _ wl_14)) hd_X1_netOf.2 ⟨Nat.le_of_ble_eq_true rfl, Nat.le_of_ble_eq_true rfl⟩, C.1.2.2.2.2 _ (List.mem_cons_of_mem _ wl_515), C.1.2.2.2.2 _ (List.mem_cons_of_mem _ wl_516)⟩ 1 rfl rfl [1] rfl rfl rfl rfl (Nat.le_of_ble_eq_true rfl) ⟨Nat.zero_le _, Nat.zero_le _⟩ dX3_trueNet_14) 17 rfl ?_
  refine g_imul C dX3_trueNet_17 18 rfl ?_
  subst hR
  exact g_iret C hr hlocks hA (by first | (dsimp only; done) | rfl) (by first | (dsimp only; done) | rfl) dX3_trueNet_18
theorem hd_X3_useByRule : yX3_useByRule.cls = RX3 ∧ yX3_useByRule.cls ≠ "java/lang/invoke/MethodHandle" ∧ yX3_useByRule.cls ≠ "java/lang/invoke/VarHandle" ∧ (parseMethodDescriptor yX3_useByRule.desc).map (fun d => d.parameters.length) = some 3 := by decide +kernel
def f_X3_useByRule (S : (Nat → Nat → Int32) × (Nat → Nat → Int64)) (ix : Nat) (p1 : Int32) (p2 : Int32) (N_ : Nat) : Option (Int32 × ((Nat → Nat → Int32) × (Nat → Nat → Int64))) :=
  if p1 = 0 then
    if (S.1 8 ix) ≤ (10 * (S.1 6 ix)) then
      some (0, S)
    else
      some (4, S)
  else
    if p1 = 1 then
      some (0, S)
    else
      if p1 = 2 then
        if (f_X0_trueStage (S.1 8 ix)) < 3 then
          some (0, S)
        else
          some (4, S)
      else
        if p1 = 3 then
          (f_X3_firstHarmless (f_X0_trueStage (S.1 8 ix)) N_).bind fun v1 =>
          some (v1, S)
        else
          (f_X2_weigh (S.2 1) (S.1 5 ix) (S.1 8 ix) N_).bind fun v2 =>
          (f_X1_bestUse (S.1 0 3) v2 p2 N_).bind fun v3 =>
          some (v3, (S.1, (kLS S.2 1 v2)))
set_option maxRecDepth 100000 in
set_option maxHeartbeats 4000000 in
theorem k_X3_useByRule (l : Launch) (g : gE) (b : Nat → Nat) (y : Nat → Nat → Nat) (S : (Nat → Nat → Int32) × (Nat → Nat → Int64)) (ix : Nat) (p1 : Int32) (p2 : Int32) (N_ : Nat) (R_ : Int32 × ((Nat → Nat → Int32) × (Nat → Nat → Int64))) (hR : f_X3_useByRule S ix p1 p2 N_ = some R_) (hx : ix < 5) : FnI l g yX3_useByRule wA_X3_useByRule { frames := 4, cells := 0, slots := 0, locals := 100 } [.ref (b 0), .ref (y 0 ix), .int p1, .int p2] (wC g b y S) R_.1 (wC g b y R_.2) := by
  refine fEntry (As := [.ref (b 0), .ref (y 0 ix), .int p1, .int p2]) (maxL := 4) (ret := (some .int)) (by decide) rfl [some (.ref (b 0)), some (.ref (y 0 ix)), some (.int p1), some (.int p2)] (Nat.le_of_ble_eq_true rfl) (lvInB.to (lvInB.sm (lvInB.sm (lvInB.sm (lvInB.sm lvInB.nil))))) ?_
  intro p e s m below meth c A C hr hlocks hname hA
  have C : Cx p s m _ c g A cX3_useByRule 4 wA_X3_useByRule RX3 := C
  rw [f_X3_useByRule] at hR
  refine g_iload_n C dX3_useByRule_0 rfl 1 rfl ?_
  rcases Decidable.em (p1 = 0) with c_1_0 | c_1_0
  · have hR := (if_pos c_1_0).symm.trans hR
    refine g_tableIn C dX3_useByRule_1 0 c_1_0 (31) 32 (by decide) ?_
    refine g_aload_n C dX3_useByRule_32 rfl 33 rfl ?_
    refine g_getN (v := .int (S.1 8 ix)) C (hiC hiA_0) (7 + ix) (wC_jug hx) rfl 3 (by decide) (List.mem_of_getElem? (i := 4) rfl) rfl rfl dX3_useByRule_33 36 rfl ?_
    refine g_bipush C dX3_useByRule_36 10 bp_10 38 rfl ?_
    refine g_aload_n C dX3_useByRule_38 rfl 39 rfl ?_
    refine g_getN (v := .int (S.1 6 ix)) C (hiC hiA_0) (7 + ix) (wC_jug hx) rfl 1 (by decide) (List.mem_of_getElem? (i := 2) rfl) rfl rfl dX3_useByRule_39 42 rfl ?_
    refine g_imul C dX3_useByRule_42 43 rfl ?_
    refine g_icmp_le C dX3_useByRule_43 hR 50 46 (by decide) rfl (fun c_43 hR => ?_) (fun c_43 hR => ?_)
    · refine g_iconst C dX3_useByRule_50 0 ic_0 51 rfl ?_
      obtain rfl := Option.some.inj hR
      exact g_iret C hr hlocks hA (by first | (dsimp only; done) | rfl) (by first | (dsimp only; done) | rfl) dX3_useByRule_51
    · refine g_iconst C dX3_useByRule_46 4 ic_4 47 rfl ?_
      refine g_goto C dX3_useByRule_47 51 (by decide) ?_
      obtain rfl := Option.some.inj hR
      exact g_iret C hr hlocks hA (by first | (dsimp only; done) | rfl) (by first | (dsimp only; done) | rfl) dX3_useByRule_51
  · have hR := (if_neg c_1_0).symm.trans hR
    rcases Decidable.em (p1 = 1) with c_1_1 | c_1_1
    · have hR := (if_pos c_1_1).symm.trans hR
      refine g_tableIn C dX3_useByRule_1 1 c_1_1 (51) 52 (by decide) ?_
      refine g_iconst C dX3_useByRule_52 0 ic_0 53 rfl ?_
      obtain rfl := Option.some.inj hR
      exact g_iret C hr hlocks hA (by first | (dsimp only; done) | rfl) (by first | (dsimp only; done) | rfl) dX3_useByRule_53
    · have hR := (if_neg c_1_1).symm.trans hR
      rcases Decidable.em (p1 = 2) with c_1_2 | c_1_2
      · have hR := (if_pos c_1_2).symm.trans hR
        refine g_tableIn C dX3_useByRule_1 2 c_1_2 (53) 54 (by decide) ?_
        refine g_aload_n C dX3_useByRule_54 rfl 55 rfl ?_
        refine g_callIR C (rn_VN C (k_X0_trueStage l g (y 0 ix) (S.1 5 ix) (S.1 6 ix) (S.1 7 ix) (S.1 8 ix)) ⟨va_cnB 0 C.1.2.2.2.2 (gdA wl_303) rfl rfl rfl (nst C (List.mem_of_getElem? (i := 9) rfl)) (C.1.2.2.2.2 _ (List.mem_cons_of_mem _ wl_27)) hd_X0_trueStage.2 ⟨Nat.le_of_ble_eq_true rfl, Nat.le_of_ble_eq_true rfl⟩, C.1.2.2.2.2 _ (List.mem_cons_of_mem _ wl_301), C.1.2.2.2.2 _ (List.mem_cons_of_mem _ wl_302)⟩ (7 + ix) (wC_jug hx) rfl [7 + ix] (hC_c (wC_jug hx) hC_n) nd_1 rfl rfl (Nat.le_of_ble_eq_true rfl) ⟨Nat.zero_le _, Nat.zero_le _⟩ dX3_useByRule_55) 58 rfl ?_
        refine g_iconst C dX3_useByRule_58 3 ic_3 59 rfl ?_
        refine g_icmp_lt C dX3_useByRule_59 hR 66 62 (by decide) rfl (fun c_59 hR => ?_) (fun c_59 hR => ?_)
        · refine g_iconst C dX3_useByRule_66 0 ic_0 67 rfl ?_
          obtain rfl := Option.some.inj hR
          exact g_iret C hr hlocks hA (by first | (dsimp only; done) | rfl) (by first | (dsimp only; done) | rfl) dX3_useByRule_67
        · refine g_iconst C dX3_useByRule_62 4 ic_4 63 rfl ?_
          refine g_goto C dX3_useByRule_63 67 (by decide) ?_
          obtain rfl := Option.some.inj hR
          exact g_iret C hr hlocks hA (by first | (dsimp only; done) | rfl) (by first | (dsimp only; done) | rfl) dX3_useByRule_67
      · have hR := (if_neg c_1_2).symm.trans hR
        rcases Decidable.em (p1 = 3) with c_1_3 | c_1_3
        · have hR := (if_pos c_1_3).symm.trans hR
          refine g_tableIn C dX3_useByRule_1 3 c_1_3 (67) 68 (by decide) ?_
          refine g_aload_n C dX3_useByRule_68 rfl 69 rfl ?_
          refine g_callIR C (rn_VN C (k_X0_trueStage l g (y 0 ix) (S.1 5 ix) (S.1 6 ix) (S.1 7 ix) (S.1 8 ix)) ⟨va_cnB 0 C.1.2.2.2.2 (gdA wl_303) rfl rfl rfl (nst C (List.mem_of_getElem? (i := 9) rfl)) (C.1.2.2.2.2 _ (List.mem_cons_of_mem _ wl_27)) hd_X0_trueStage.2 ⟨Nat.le_of_ble_eq_true rfl, Nat.le_of_ble_eq_true rfl⟩, C.1.2.2.2.2 _ (List.mem_cons_of_mem _ wl_301), C.1.2.2.2.2 _ (List.mem_cons_of_mem _ wl_302)⟩ (7 + ix) (wC_jug hx) rfl [7 + ix] (hC_c (wC_jug hx) hC_n) nd_1 rfl rfl (Nat.le_of_ble_eq_true rfl) ⟨Nat.zero_le _, Nat.zero_le _⟩ dX3_useByRule_69) 72 rfl ?_
          obtain ⟨v1, hv1, hR⟩ := opt_b hR
          refine g_callIR C (rn_S C (k_X3_firstHarmless l g (f_X0_trueStage (S.1 8 ix)) N_ v1 hv1) (va_cwS 1 C.1.2.2.2.2 (gdS wl_840 wl_838 wl_839 wl_2) rfl rfl rfl hd_X3_firstHarmless.2 ⟨Nat.le_of_ble_eq_true rfl, Nat.le_of_ble_eq_true rfl⟩) [] rfl rfl rfl rfl (Nat.le_of_ble_eq_true rfl) ⟨Nat.zero_le _, Nat.zero_le _⟩ dX3_useByRule_72) 75 rfl ?_
          obtain rfl := Option.some.inj hR
          exact g_iret C hr hlocks hA (by first | (dsimp only; done) | rfl) (by first | (dsimp only; done) | rfl) dX3_useByRule_75
        · have hR := (if_neg c_1_3).symm.trans hR
          refine g_tableD C dX3_useByRule_1 [0, 1, 2, 3] (ne_c c_1_0 (ne_c c_1_1 (ne_c c_1_2 (ne_c c_1_3 ne_n)))) (by decide +kernel) (by decide +kernel) 76 (by decide) ?_
          refine g_aload_n C dX3_useByRule_76 rfl 77 rfl ?_
          refine g_get (v := .ref (b 25)) C (hiC hiA_3) 0 rfl rfl 12 (by decide) (List.mem_cons_of_mem _ wl_34) rfl rfl dX3_useByRule_77 80 rfl ?_
          refine g_aload_n C dX3_useByRule_80 rfl 81 rfl ?_
          obtain ⟨v2, hv2, hR⟩ := opt_b hR
          refine g_callV C (rn_VN C (k_X2_weigh l g (b 25) (b 28) (y 0 ix) (S.2 1) (S.1 5 ix) (S.1 6 ix) (S.1 7 ix) (S.1 8 ix) N_ v2 hv2) ⟨va_cnB 1 C.1.2.2.2.2 (gdA wl_406) rfl rfl rfl (nst C (List.mem_of_getElem? (i := 22) rfl)) (C.1.2.2.2.2 _ (List.mem_cons_of_mem _ wl_32)) hd_X2_weigh.2 ⟨Nat.le_of_ble_eq_true rfl, Nat.le_of_ble_eq_true rfl⟩, C.1.2.2.2.2 _ (List.mem_cons_of_mem _ wl_404), C.1.2.2.2.2 _ (List.mem_cons_of_mem _ wl_405)⟩ 40 rfl rfl [40, 43, 7 + ix] (hC_c rfl (hC_c rfl (hC_c (wC_jug hx) hC_n))) (nd_3 (by omega) (by omega) (by omega)) rfl rfl (Nat.le_of_ble_eq_true rfl) ⟨Nat.zero_le _, Nat.zero_le _⟩ dX3_useByRule_81) (wC g b y (S.1, (kLS S.2 1 v2))) (wC_jl3 (g := g) (b := b) (y := y) (S := (S.1, (kLS S.2 1 v2))) hx rfl) rfl 84 rfl ?_
          refine g_aload_n C dX3_useByRule_84 rfl 85 rfl ?_
          refine g_get (v := .ref (b 1)) C (hiC hiA_3) 0 rfl rfl 0 (by decide) (List.mem_cons_of_mem _ wl_15) rfl rfl dX3_useByRule_85 88 rfl ?_
          refine g_iload_n C dX3_useByRule_88 rfl 89 rfl ?_
          refine g_aload_n C dX3_useByRule_89 rfl 90 rfl ?_
          refine g_get (v := .ref (b 25)) C (hiC hiA_3) 0 rfl rfl 12 (by decide) (List.mem_cons_of_mem _ wl_34) rfl rfl dX3_useByRule_90 93 rfl ?_
          obtain ⟨v3, hv3, hR⟩ := opt_b hR
          refine g_callIR C (rn_VN C (k_X1_bestUse l g (b 1) (b 2) (b 3) (b 4) (b 5) (b 6) (b 25) (b 28) (S.1 0 0) (S.1 0 1) (S.1 0 2) (S.1 0 3) (S.1 0 4) v2 p2 N_ v3 hv3) ⟨va_cnB 2 C.1.2.2.2.2 (gdA wl_549) rfl rfl rfl (nst C (List.mem_of_getElem? (i := 20) rfl)) (C.1.2.2.2.2 _ (List.mem_cons_of_mem _ wl_14)) hd_X1_bestUse.2 ⟨Nat.le_of_ble_eq_true rfl, Nat.le_of_ble_eq_true rfl⟩, C.1.2.2.2.2 _ (List.mem_cons_of_mem _ wl_547), C.1.2.2.2.2 _ (List.mem_cons_of_mem _ wl_548)⟩ 1 rfl rfl [1, 40, 43] rfl rfl rfl rfl (Nat.le_of_ble_eq_true rfl) ⟨Nat.zero_le _, Nat.zero_le _⟩ dX3_useByRule_93) 96 rfl ?_
          obtain rfl := Option.some.inj hR
          exact g_iret C hr hlocks hA (by first | (dsimp only; done) | rfl) (by first | (dsimp only; done) | rfl) dX3_useByRule_96
theorem hd_X3_kindsThatFit : yX3_kindsThatFit.cls = RX3 ∧ yX3_kindsThatFit.cls ≠ "java/lang/invoke/MethodHandle" ∧ yX3_kindsThatFit.cls ≠ "java/lang/invoke/VarHandle" ∧ (parseMethodDescriptor yX3_kindsThatFit.desc).map (fun d => d.parameters.length) = some 3 := by decide +kernel
def f_X3_kindsThatFit_L6 (x1 : Int32) (x2 : Int32) (x3 : Int32) (N_ : Nat) : Nat → Int32 → Int32 → ((Nat → Nat → Int32) × (Nat → Nat → Int64)) → Option (Int32 × Int32 × ((Nat → Nat → Int32) × (Nat → Nat → Int64)))
  | 0, _, _, _ => none
  | n_ + 1, x4, x5, S =>
    if 6 ≤ x5 then
      some (x4, x5, S)
    else
      if (f_X0_trueStage (f_X0_gain ((f_X0_fill x5 x1 1 0).2.2.2) (x2 * (f_X0_coldPoints ((f_X0_fill x5 x1 1 0).1))))) < 3 then
        if (0 : Int32) = x3 then
          f_X3_kindsThatFit_L6 x1 x2 x3 N_ n_ (x4 ||| ((1 : Int32) <<< (x5 &&& 31))) (x5 + 1) ((kS S.1 35 (upd (upd (upd (upd (S.1 35) 0 ((f_X0_fill x5 x1 1 0).1)) 1 ((f_X0_fill x5 x1 1 0).2.1)) 2 ((f_X0_fill x5 x1 1 0).2.2.1)) 3 (f_X0_gain ((f_X0_fill x5 x1 1 0).2.2.2) (x2 * (f_X0_coldPoints ((f_X0_fill x5 x1 1 0).1)))))), S.2)
        else
          f_X3_kindsThatFit_L6 x1 x2 x3 N_ n_ x4 (x5 + 1) ((kS S.1 35 (upd (upd (upd (upd (S.1 35) 0 ((f_X0_fill x5 x1 1 0).1)) 1 ((f_X0_fill x5 x1 1 0).2.1)) 2 ((f_X0_fill x5 x1 1 0).2.2.1)) 3 (f_X0_gain ((f_X0_fill x5 x1 1 0).2.2.2) (x2 * (f_X0_coldPoints ((f_X0_fill x5 x1 1 0).1)))))), S.2)
      else
        if (1 : Int32) = x3 then
          f_X3_kindsThatFit_L6 x1 x2 x3 N_ n_ (x4 ||| ((1 : Int32) <<< (x5 &&& 31))) (x5 + 1) ((kS S.1 35 (upd (upd (upd (upd (S.1 35) 0 ((f_X0_fill x5 x1 1 0).1)) 1 ((f_X0_fill x5 x1 1 0).2.1)) 2 ((f_X0_fill x5 x1 1 0).2.2.1)) 3 (f_X0_gain ((f_X0_fill x5 x1 1 0).2.2.2) (x2 * (f_X0_coldPoints ((f_X0_fill x5 x1 1 0).1)))))), S.2)
        else
          f_X3_kindsThatFit_L6 x1 x2 x3 N_ n_ x4 (x5 + 1) ((kS S.1 35 (upd (upd (upd (upd (S.1 35) 0 ((f_X0_fill x5 x1 1 0).1)) 1 ((f_X0_fill x5 x1 1 0).2.1)) 2 ((f_X0_fill x5 x1 1 0).2.2.1)) 3 (f_X0_gain ((f_X0_fill x5 x1 1 0).2.2.2) (x2 * (f_X0_coldPoints ((f_X0_fill x5 x1 1 0).1)))))), S.2)
set_option maxRecDepth 100000 in
set_option maxHeartbeats 4000000 in
theorem k_X3_kindsThatFit_L6 (l : Launch) (g : gE) {p : Program} {e : Env} {s : State} {m : MethodId} {args : Array Value} {below : List Frame} {meth : Method} {c : Code} {Q : State → Prop} {A : Nat → Prop} {b : Nat → Nat}  (C : Cx p s m args c g A cX3_kindsThatFit 7 wA_X3_kindsThatFit RX3) (N_ : Nat) (x1 : Int32) (x2 : Int32) (x3 : Int32) (y : Nat → Nat → Nat) : ∀ (n_ : Nat) (x4 : Int32) (x5 : Int32) (S : (Nat → Nat → Int32) × (Nat → Nat → Int64)) (rv_ : Int32 × Int32 × ((Nat → Nat → Int32) × (Nat → Nat → Int64))), f_X3_kindsThatFit_L6 x1 x2 x3 N_ n_ x4 x5 S = some rv_ → (Gm p l e (headSpec wA_X3_kindsThatFit ({ frames := 2, cells := 0, slots := 0, locals := 37 } : Room)).room s m args below meth c Q g A 7 0 0 (wC g b y rv_.2.2) [some (.ref (b 0)), some (.int x1), some (.int x2), some (.int x3), some (.int rv_.1), some (.int rv_.2.1), none] [] 80) → Gm p l e (headSpec wA_X3_kindsThatFit ({ frames := 2, cells := 0, slots := 0, locals := 37 } : Room)).room s m args below meth c Q g A 7 0 0 (wC g b y S) [some (.ref (b 0)), some (.int x1), some (.int x2), some (.int x3), some (.int x4), some (.int x5), none] [] 6 := by
  intro n_
  induction n_ with
  | zero =>
    intro x4 x5 S rv_ hR
    simp [f_X3_kindsThatFit_L6] at hR
  | succ n_ ih =>
    intro x4 x5 S rv_ hR hk
    rw [f_X3_kindsThatFit_L6] at hR
    refine g_iload C dX3_kindsThatFit_6 rfl 8 rfl ?_
    refine g_bipush C dX3_kindsThatFit_8 6 bp_6 10 rfl ?_
    refine g_icmp_ge C dX3_kindsThatFit_10 hR 80 13 (by decide) rfl (fun c_10 hR => ?_) (fun c_10 hR => ?_)
    · obtain rfl := Option.some.inj hR
      refine g_lv [some (.ref (b 0)), some (.int x1), some (.int x2), some (.int x3), some (.int x4), some (.int x5), none] (lvLe.sm (lvLe.sm (lvLe.sm (lvLe.sm (lvLe.sm (lvLe.sm (lvLe.nn lvLe.nil))))))) ?_
      exact hk
    · refine g_aload_n C dX3_kindsThatFit_13 rfl 14 rfl ?_
      refine g_get (v := .ref (b 23)) C (hiC hiA_3) 0 rfl rfl 10 (by decide) (List.mem_cons_of_mem _ wl_29) rfl rfl dX3_kindsThatFit_14 17 rfl ?_
      refine g_iload C dX3_kindsThatFit_17 rfl 19 rfl ?_
      refine g_iload_n C dX3_kindsThatFit_19 rfl 20 rfl ?_
      refine g_iconst C dX3_kindsThatFit_20 1 ic_1 21 rfl ?_
      refine g_iconst C dX3_kindsThatFit_21 0 ic_0 22 rfl ?_
      refine g_callV C (rn_VN C (k_X0_fill l g (b 23) (S.1 35 0) (S.1 35 1) (S.1 35 2) (S.1 35 3) x5 x1 1 0) ⟨va_cnB 4 C.1.2.2.2.2 (gdA wl_150) rfl rfl rfl (nst C (List.mem_of_getElem? (i := 29) rfl)) (C.1.2.2.2.2 _ (List.mem_cons_of_mem _ wl_27)) hd_X0_fill.2 ⟨Nat.le_of_ble_eq_true rfl, Nat.le_of_ble_eq_true rfl⟩, C.1.2.2.2.2 _ (List.mem_cons_of_mem _ wl_148), C.1.2.2.2.2 _ (List.mem_cons_of_mem _ wl_149)⟩ 38 rfl rfl [38] rfl rfl rfl rfl (Nat.le_of_ble_eq_true rfl) ⟨Nat.zero_le _, Nat.zero_le _⟩ dX3_kindsThatFit_22) (wC g b y ((kS S.1 35 (upd (upd (upd (upd (S.1 35) 0 ((f_X0_fill x5 x1 1 0).1)) 1 ((f_X0_fill x5 x1 1 0).2.1)) 2 ((f_X0_fill x5 x1 1 0).2.2.1)) 3 ((f_X0_fill x5 x1 1 0).2.2.2))), S.2)) rfl rfl 25 rfl ?_
      refine g_aload_n C dX3_kindsThatFit_25 rfl 26 rfl ?_
      refine g_get (v := .ref (b 23)) C (hiC hiA_3) 0 rfl rfl 10 (by decide) (List.mem_cons_of_mem _ wl_29) rfl rfl dX3_kindsThatFit_26 29 rfl ?_
      refine g_iload_n C dX3_kindsThatFit_29 rfl 30 rfl ?_
      refine g_aload_n C dX3_kindsThatFit_30 rfl 31 rfl ?_
      refine g_get (v := .ref (b 23)) C (hiC hiA_3) 0 rfl rfl 10 (by decide) (List.mem_cons_of_mem _ wl_29) rfl rfl dX3_kindsThatFit_31 34 rfl ?_
      refine g_callIR C (rn_VN C (k_X0_coldPoints l g (b 23) ((f_X0_fill x5 x1 1 0).1) ((f_X0_fill x5 x1 1 0).2.1) ((f_X0_fill x5 x1 1 0).2.2.1) ((f_X0_fill x5 x1 1 0).2.2.2)) ⟨va_cnB 0 C.1.2.2.2.2 (gdA wl_174) rfl rfl rfl (nst C (List.mem_of_getElem? (i := 10) rfl)) (C.1.2.2.2.2 _ (List.mem_cons_of_mem _ wl_27)) hd_X0_coldPoints.2 ⟨Nat.le_of_ble_eq_true rfl, Nat.le_of_ble_eq_true rfl⟩, C.1.2.2.2.2 _ (List.mem_cons_of_mem _ wl_172), C.1.2.2.2.2 _ (List.mem_cons_of_mem _ wl_173)⟩ 38 rfl rfl [38] rfl rfl rfl rfl (Nat.le_of_ble_eq_true rfl) ⟨Nat.zero_le _, Nat.zero_le _⟩ dX3_kindsThatFit_34) 37 rfl ?_
      refine g_imul C dX3_kindsThatFit_37 38 rfl ?_
      refine g_callV C (rn_VN C (k_X0_gain l g (b 23) ((f_X0_fill x5 x1 1 0).1) ((f_X0_fill x5 x1 1 0).2.1) ((f_X0_fill x5 x1 1 0).2.2.1) ((f_X0_fill x5 x1 1 0).2.2.2) (x2 * (f_X0_coldPoints ((f_X0_fill x5 x1 1 0).1)))) ⟨va_cnB 1 C.1.2.2.2.2 (gdA wl_177) rfl rfl rfl (nst C (List.mem_of_getElem? (i := 13) rfl)) (C.1.2.2.2.2 _ (List.mem_cons_of_mem _ wl_27)) hd_X0_gain.2 ⟨Nat.le_of_ble_eq_true rfl, Nat.le_of_ble_eq_true rfl⟩, C.1.2.2.2.2 _ (List.mem_cons_of_mem _ wl_175), C.1.2.2.2.2 _ (List.mem_cons_of_mem _ wl_176)⟩ 38 rfl rfl [38] rfl rfl rfl rfl (Nat.le_of_ble_eq_true rfl) ⟨Nat.zero_le _, Nat.zero_le _⟩ dX3_kindsThatFit_38) (wC g b y ((kS S.1 35 (upd (upd (upd (upd (S.1 35) 0 ((f_X0_fill x5 x1 1 0).1)) 1 ((f_X0_fill x5 x1 1 0).2.1)) 2 ((f_X0_fill x5 x1 1 0).2.2.1)) 3 (f_X0_gain ((f_X0_fill x5 x1 1 0).2.2.2) (x2 * (f_X0_coldPoints ((f_X0_fill x5 x1 1 0).1)))))), S.2)) rfl rfl 41 rfl ?_
      refine g_aload_n C dX3_kindsThatFit_41 rfl 42 rfl ?_
      refine g_get (v := .ref (b 23)) C (hiC hiA_3) 0 rfl rfl 10 (by decide) (List.mem_cons_of_mem _ wl_29) rfl rfl dX3_kindsThatFit_42 45 rfl ?_
      refine g_callIR C (rn_VN C (k_X0_trueStage l g (b 23) ((f_X0_fill x5 x1 1 0).1) ((f_X0_fill x5 x1 1 0).2.1) ((f_X0_fill x5 x1 1 0).2.2.1) (f_X0_gain ((f_X0_fill x5 x1 1 0).2.2.2) (x2 * (f_X0_coldPoints ((f_X0_fill x5 x1 1 0).1))))) ⟨va_cnB 0 C.1.2.2.2.2 (gdA wl_303) rfl rfl rfl (nst C (List.mem_of_getElem? (i := 9) rfl)) (C.1.2.2.2.2 _ (List.mem_cons_of_mem _ wl_27)) hd_X0_trueStage.2 ⟨Nat.le_of_ble_eq_true rfl, Nat.le_of_ble_eq_true rfl⟩, C.1.2.2.2.2 _ (List.mem_cons_of_mem _ wl_301), C.1.2.2.2.2 _ (List.mem_cons_of_mem _ wl_302)⟩ 38 rfl rfl [38] rfl rfl rfl rfl (Nat.le_of_ble_eq_true rfl) ⟨Nat.zero_le _, Nat.zero_le _⟩ dX3_kindsThatFit_45) 48 rfl ?_
      refine g_iconst C dX3_kindsThatFit_48 3 ic_3 49 rfl ?_
      refine g_icmp_lt C dX3_kindsThatFit_49 hR 56 52 (by decide) rfl (fun c_49 hR => ?_) (fun c_49 hR => ?_)
      · refine g_iconst C dX3_kindsThatFit_56 0 ic_0 57 rfl ?_
        refine g_istore C dX3_kindsThatFit_57 [_, _, _, _, _, _, _] (Nat.le_of_ble_eq_true rfl) rfl rfl 59 rfl ?_
        refine g_iload C dX3_kindsThatFit_59 rfl 61 rfl ?_
        refine g_iload_n C dX3_kindsThatFit_61 rfl 62 rfl ?_
        refine g_icmp_ne C dX3_kindsThatFit_62 hR 74 65 (by decide) rfl (fun c_62 hR => ?_) (fun c_62 hR => ?_)
        · refine g_iinc C dX3_kindsThatFit_74 rfl 1 ic_1 [_, _, _, _, _, _, _] (Nat.le_of_ble_eq_true rfl) rfl rfl 77 rfl ?_
          refine g_goto C dX3_kindsThatFit_77 6 (by decide) ?_
          refine g_lv [some (.ref (b 0)), some (.int x1), some (.int x2), some (.int x3), some (.int x4), some (.int (x5 + 1)), none] (lvLe.sm (lvLe.sm (lvLe.sm (lvLe.sm (lvLe.sm (lvLe.sm (lvLe.nn lvLe.nil))))))) ?_
          exact ih _ _ _ rv_ hR hk
        · refine g_iload C dX3_kindsThatFit_65 rfl 67 rfl ?_
          refine g_iconst C dX3_kindsThatFit_67 1 ic_1 68 rfl ?_
          refine g_iload C dX3_kindsThatFit_68 rfl 70 rfl ?_
          refine g_ishl C dX3_kindsThatFit_70 71 rfl ?_
          refine g_ior C dX3_kindsThatFit_71 72 rfl ?_
          refine g_istore C dX3_kindsThatFit_72 [_, _, _, _, _, _, _] (Nat.le_of_ble_eq_true rfl) rfl rfl 74 rfl ?_
          refine g_iinc C dX3_kindsThatFit_74 rfl 1 ic_1 [_, _, _, _, _, _, _] (Nat.le_of_ble_eq_true rfl) rfl rfl 77 rfl ?_
          refine g_goto C dX3_kindsThatFit_77 6 (by decide) ?_
          refine g_lv [some (.ref (b 0)), some (.int x1), some (.int x2), some (.int x3), some (.int (x4 ||| ((1 : Int32) <<< (x5 &&& 31)))), some (.int (x5 + 1)), none] (lvLe.sm (lvLe.sm (lvLe.sm (lvLe.sm (lvLe.sm (lvLe.sm (lvLe.nn lvLe.nil))))))) ?_
          exact ih _ _ _ rv_ hR hk
      · refine g_iconst C dX3_kindsThatFit_52 1 ic_1 53 rfl ?_
        refine g_goto C dX3_kindsThatFit_53 57 (by decide) ?_
        refine g_istore C dX3_kindsThatFit_57 [_, _, _, _, _, _, _] (Nat.le_of_ble_eq_true rfl) rfl rfl 59 rfl ?_
        refine g_iload C dX3_kindsThatFit_59 rfl 61 rfl ?_
        refine g_iload_n C dX3_kindsThatFit_61 rfl 62 rfl ?_
        refine g_icmp_ne C dX3_kindsThatFit_62 hR 74 65 (by decide) rfl (fun c_62 hR => ?_) (fun c_62 hR => ?_)
        · refine g_iinc C dX3_kindsThatFit_74 rfl 1 ic_1 [_, _, _, _, _, _, _] (Nat.le_of_ble_eq_true rfl) rfl rfl 77 rfl ?_
          refine g_goto C dX3_kindsThatFit_77 6 (by decide) ?_
          refine g_lv [some (.ref (b 0)), some (.int x1), some (.int x2), some (.int x3), some (.int x4), some (.int (x5 + 1)), none] (lvLe.sm (lvLe.sm (lvLe.sm (lvLe.sm (lvLe.sm (lvLe.sm (lvLe.nn lvLe.nil))))))) ?_
          exact ih _ _ _ rv_ hR hk
        · refine g_iload C dX3_kindsThatFit_65 rfl 67 rfl ?_
          refine g_iconst C dX3_kindsThatFit_67 1 ic_1 68 rfl ?_
          refine g_iload C dX3_kindsThatFit_68 rfl 70 rfl ?_
          refine g_ishl C dX3_kindsThatFit_70 71 rfl ?_
          refine g_ior C dX3_kindsThatFit_71 72 rfl ?_
          refine g_istore C dX3_kindsThatFit_72 [_, _, _, _, _, _, _] (Nat.le_of_ble_eq_true rfl) rfl rfl 74 rfl ?_
          refine g_iinc C dX3_kindsThatFit_74 rfl 1 ic_1 [_, _, _, _, _, _, _] (Nat.le_of_ble_eq_true rfl) rfl rfl 77 rfl ?_
          refine g_goto C dX3_kindsThatFit_77 6 (by decide) ?_
          refine g_lv [some (.ref (b 0)), some (.int x1), some (.int x2), some (.int x3), some (.int (x4 ||| ((1 : Int32) <<< (x5 &&& 31)))), some (.int (x5 + 1)), none] (lvLe.sm (lvLe.sm (lvLe.sm (lvLe.sm (lvLe.sm (lvLe.sm (lvLe.nn lvLe.nil))))))) ?_
          exact ih _ _ _ rv_ hR hk
def f_X3_kindsThatFit (S : (Nat → Nat → Int32) × (Nat → Nat → Int64)) (p0 : Int32) (p1 : Int32) (p2 : Int32) (N_ : Nat) : Option (Int32 × ((Nat → Nat → Int32) × (Nat → Nat → Int64))) :=
  (f_X3_kindsThatFit_L6 p0 p1 p2 N_ N_ 0 0 S).bind fun v1 =>
  some (v1.1, v1.2.2)
set_option maxRecDepth 100000 in
set_option maxHeartbeats 4000000 in
theorem k_X3_kindsThatFit (l : Launch) (g : gE) (b : Nat → Nat) (y : Nat → Nat → Nat) (S : (Nat → Nat → Int32) × (Nat → Nat → Int64)) (p0 : Int32) (p1 : Int32) (p2 : Int32) (N_ : Nat) (R_ : Int32 × ((Nat → Nat → Int32) × (Nat → Nat → Int64))) (hR : f_X3_kindsThatFit S p0 p1 p2 N_ = some R_) : FnI l g yX3_kindsThatFit wA_X3_kindsThatFit { frames := 2, cells := 0, slots := 0, locals := 37 } [.ref (b 0), .int p0, .int p1, .int p2] (wC g b y S) R_.1 (wC g b y R_.2) := by
  refine fEntry (As := [.ref (b 0), .int p0, .int p1, .int p2]) (maxL := 7) (ret := (some .int)) (by decide) rfl [some (.ref (b 0)), some (.int p0), some (.int p1), some (.int p2), none, none, none] (Nat.le_of_ble_eq_true rfl) (lvInB.to (lvInB.sm (lvInB.sm (lvInB.sm (lvInB.sm (lvInB.nn (lvInB.nn (lvInB.nn lvInB.nil)))))))) ?_
  intro p e s m below meth c A C hr hlocks hname hA
  have C : Cx p s m _ c g A cX3_kindsThatFit 7 wA_X3_kindsThatFit RX3 := C
  rw [f_X3_kindsThatFit] at hR
  refine g_iconst C dX3_kindsThatFit_0 0 ic_0 1 rfl ?_
  refine g_istore C dX3_kindsThatFit_1 [_, _, _, _, _, _, _] (Nat.le_of_ble_eq_true rfl) rfl rfl 3 rfl ?_
  refine g_iconst C dX3_kindsThatFit_3 0 ic_0 4 rfl ?_
  refine g_istore C dX3_kindsThatFit_4 [_, _, _, _, _, _, _] (Nat.le_of_ble_eq_true rfl) rfl rfl 6 rfl ?_
  refine g_lv [some (.ref (b 0)), some (.int p0), some (.int p1), some (.int p2), some (.int 0), some (.int 0), none] (lvLe.sm (lvLe.sm (lvLe.sm (lvLe.sm (lvLe.sm (lvLe.sm (lvLe.nn lvLe.nil))))))) ?_
  obtain ⟨v1, hv1, hR⟩ := opt_b hR
  refine k_X3_kindsThatFit_L6 l g C N_ p0 p1 p2 y N_ 0 0 S _ hv1 ?_
  refine g_iload C dX3_kindsThatFit_80 rfl 82 rfl ?_
  obtain rfl := Option.some.inj hR
  exact g_iret C hr hlocks hA (by first | (dsimp only; done) | rfl) (by first | (dsimp only; done) | rfl) dX3_kindsThatFit_82
theorem hd_X3_isRowOfPairs : yX3_isRowOfPairs.cls = RX3 ∧ yX3_isRowOfPairs.cls ≠ "java/lang/invoke/MethodHandle" ∧ yX3_isRowOfPairs.cls ≠ "java/lang/invoke/VarHandle" ∧ (parseMethodDescriptor yX3_isRowOfPairs.desc).map (fun d => d.parameters.length) = some 0 := by decide +kernel
def f_X3_isRowOfPairs_L13 (S : (Nat → Nat → Int32) × (Nat → Nat → Int64)) (N_ : Nat) : Nat → Int32 → Option ((Bool) ⊕ (Int32))
  | 0, _ => none
  | n_ + 1, x1 =>
    if (S.1 30 2) ≤ x1 then
      some (.inr x1)
    else
      if (b2i (f_X3_isOneOf (f_X3_at (S.1 32) 12 x1) 2)) = 0 then
        some (.inl false)
      else
        f_X3_isRowOfPairs_L13 S N_ n_ (x1 + 2)
set_option maxRecDepth 100000 in
set_option maxHeartbeats 4000000 in
theorem k_X3_isRowOfPairs_L13 (l : Launch) (g : gE) {p : Program} {e : Env} {s : State} {m : MethodId} {args : Array Value} {below : List Frame} {meth : Method} {c : Code} {Q : State → Prop} {A : Nat → Prop} {wc0 : va_W} {b : Nat → Nat}  (C : Cx p s m args c g A cX3_isRowOfPairs 2 wA_X3_isRowOfPairs RX3) (hr : meth.sig.returnType = some .boolean) (hlocks : meth.locks = false) (hA : va_A wc0 s.heap.size = A) (N_ : Nat) (y : Nat → Nat → Nat) (S : (Nat → Nat → Int32) × (Nat → Nat → Int64)) : ∀ (n_ : Nat) (x1 : Int32) (rv_ : (Bool) ⊕ (Int32)), f_X3_isRowOfPairs_L13 S N_ n_ x1 = some rv_ → (∀ v_, rv_ = .inr v_ → Gm p l e (headSpec wA_X3_isRowOfPairs ({ frames := 1, cells := 0, slots := 0, locals := 21 } : Room)).room s m args below meth c Q g A 2 0 0 (wC g b y S) [some (.ref (b 0)), some (.int v_)] [] 44) → (∀ r_, rv_ = .inl r_ → Q = MQ below (qI g wc0 (b2i r_) (wC g b y S) s.heap.size) args s 0 0 A) → Gm p l e (headSpec wA_X3_isRowOfPairs ({ frames := 1, cells := 0, slots := 0, locals := 21 } : Room)).room s m args below meth c Q g A 2 0 0 (wC g b y S) [some (.ref (b 0)), some (.int x1)] [] 13 := by
  intro n_
  induction n_ with
  | zero =>
    intro x1 rv_ hR
    simp [f_X3_isRowOfPairs_L13] at hR
  | succ n_ ih =>
    intro x1 rv_ hR hk hq
    rw [f_X3_isRowOfPairs_L13] at hR
    refine g_iload_n C dX3_isRowOfPairs_13 rfl 14 rfl ?_
    refine g_aload_n C dX3_isRowOfPairs_14 rfl 15 rfl ?_
    refine g_get (v := .int (S.1 30 2)) C (hiC hiA_3) 0 rfl rfl 7 (by decide) (List.mem_cons_of_mem _ wl_23) rfl rfl dX3_isRowOfPairs_15 18 rfl ?_
    refine g_icmp_ge C dX3_isRowOfPairs_18 hR 44 21 (by decide) rfl (fun c_18 hR => ?_) (fun c_18 hR => ?_)
    · obtain rfl := Option.some.inj hR
      refine g_lv [some (.ref (b 0)), some (.int x1)] (lvLe.sm (lvLe.sm lvLe.nil)) ?_
      exact hk _ rfl
    · refine g_aload_n C dX3_isRowOfPairs_21 rfl 22 rfl ?_
      refine g_get (v := .ref (b 20)) C (hiC hiA_3) 0 rfl rfl 6 (by decide) (List.mem_cons_of_mem _ wl_22) rfl rfl dX3_isRowOfPairs_22 25 rfl ?_
      refine g_iload_n C dX3_isRowOfPairs_25 rfl 26 rfl ?_
      refine g_callIR C (rn_S C (k_X3_at l g (b 20) (S.1 32) 12 x1 (by decide)) (va_cwS 2 C.1.2.2.2.2 (gdS wl_130 wl_128 wl_129 wl_2) rfl rfl rfl hd_X3_at.2 ⟨Nat.le_of_ble_eq_true rfl, Nat.le_of_ble_eq_true rfl⟩) [35] rfl rfl rfl rfl (Nat.le_of_ble_eq_true rfl) ⟨Nat.zero_le _, Nat.zero_le _⟩ dX3_isRowOfPairs_26) 29 rfl ?_
      refine g_iconst C dX3_isRowOfPairs_29 2 ic_2 30 rfl ?_
      refine g_callIR C (rn_S C (k_X3_isOneOf l g (f_X3_at (S.1 32) 12 x1) 2) (va_cwS 2 C.1.2.2.2.2 (gdS wl_95 wl_93 wl_94 wl_2) rfl rfl rfl hd_X3_isOneOf.2 ⟨Nat.le_of_ble_eq_true rfl, Nat.le_of_ble_eq_true rfl⟩) [] rfl rfl rfl rfl (Nat.le_of_ble_eq_true rfl) ⟨Nat.zero_le _, Nat.zero_le _⟩ dX3_isRowOfPairs_30) 33 rfl ?_
      refine g_if_ne C dX3_isRowOfPairs_33 hR 38 36 (by decide) rfl (fun c_33 hR => ?_) (fun c_33 hR => ?_)
      · refine g_iinc C dX3_isRowOfPairs_38 rfl 2 ic_2 [_, _] (Nat.le_of_ble_eq_true rfl) rfl rfl 41 rfl ?_
        refine g_goto C dX3_isRowOfPairs_41 13 (by decide) ?_
        refine g_lv [some (.ref (b 0)), some (.int (x1 + 2))] (lvLe.sm (lvLe.sm lvLe.nil)) ?_
        exact ih _ rv_ hR hk hq
      · refine g_iconst C dX3_isRowOfPairs_36 0 ic_0 37 rfl ?_
        obtain rfl := Option.some.inj hR
        rw [hq _ rfl]
        exact g_zret C hr hlocks (by decide) hA rfl (by first | (dsimp only; done) | rfl) dX3_isRowOfPairs_37
def f_X3_isRowOfPairs (S : (Nat → Nat → Int32) × (Nat → Nat → Int64)) (N_ : Nat) : Option (Bool) :=
  if ((S.1 30 2) - (S.1 30 2) / 2 * 2) = 0 then
    (f_X3_isRowOfPairs_L13 S N_ N_ 1).bind fun v1 =>
      match v1 with
      | .inl r => some r
      | .inr v2 =>
        some true
  else
    some false
set_option maxRecDepth 100000 in
set_option maxHeartbeats 4000000 in
theorem k_X3_isRowOfPairs (l : Launch) (g : gE) (b : Nat → Nat) (y : Nat → Nat → Nat) (S : (Nat → Nat → Int32) × (Nat → Nat → Int64)) (N_ : Nat) (R_ : Bool) (hR : f_X3_isRowOfPairs S N_ = some R_) : FnI l g yX3_isRowOfPairs wA_X3_isRowOfPairs { frames := 1, cells := 0, slots := 0, locals := 21 } [.ref (b 0)] (wC g b y S) (b2i R_) (wC g b y S) := by
  refine fEntry (As := [.ref (b 0)]) (maxL := 2) (ret := (some .boolean)) (by decide) rfl [some (.ref (b 0)), none] (Nat.le_of_ble_eq_true rfl) (lvInB.to (lvInB.sm (lvInB.nn lvInB.nil))) ?_
  intro p e s m below meth c A C hr hlocks hname hA
  have C : Cx p s m _ c g A cX3_isRowOfPairs 2 wA_X3_isRowOfPairs RX3 := C
  rw [f_X3_isRowOfPairs] at hR
  refine g_aload_n C dX3_isRowOfPairs_0 rfl 1 rfl ?_
  refine g_get (v := .int (S.1 30 2)) C (hiC hiA_3) 0 rfl rfl 7 (by decide) (List.mem_cons_of_mem _ wl_23) rfl rfl dX3_isRowOfPairs_1 4 rfl ?_
  refine g_iconst C dX3_isRowOfPairs_4 2 ic_2 5 rfl ?_
  refine g_irem C dX3_isRowOfPairs_5 (by decide) 6 rfl ?_
  refine g_if_eq C dX3_isRowOfPairs_6 hR 11 9 (by decide) rfl (fun c_6 hR => ?_) (fun c_6 hR => ?_)
  · refine g_iconst C dX3_isRowOfPairs_11 1 ic_1 12 rfl ?_
    refine g_istore_n C dX3_isRowOfPairs_12 [_, _] (Nat.le_of_ble_eq_true rfl) rfl rfl 13 rfl ?_
    refine g_lv [some (.ref (b 0)), some (.int 1)] (lvLe.sm (lvLe.sm lvLe.nil)) ?_
    obtain ⟨v1, hv1, hR⟩ := opt_b hR
    rcases v1 with r_ | v2
    · refine k_X3_isRowOfPairs_L13 l g C hr hlocks hA N_ y S N_ 1 _ hv1 (fun _ h => nomatch h) (fun r h => ?_)
      cases h
      obtain rfl := Option.some.inj hR
      rfl
    · refine k_X3_isRowOfPairs_L13 l g C hr hlocks hA N_ y S N_ 1 _ hv1 (fun _ h => ?_) (fun _ h => nomatch h)
      cases h
      refine g_iconst C dX3_isRowOfPairs_44 1 ic_1 45 rfl ?_
      obtain rfl := Option.some.inj hR
      exact g_zret C hr hlocks (by decide) hA rfl (by first | (dsimp only; done) | rfl) dX3_isRowOfPairs_45
  · refine g_iconst C dX3_isRowOfPairs_9 0 ic_0 10 rfl ?_
    obtain rfl := Option.some.inj hR
    exact g_zret C hr hlocks (by decide) hA rfl (by first | (dsimp only; done) | rfl) dX3_isRowOfPairs_10
