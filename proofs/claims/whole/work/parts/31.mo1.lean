theorem hd_X4_isIn : yX4_isIn.cls = RX4 ∧ yX4_isIn.cls ≠ "java/lang/invoke/MethodHandle" ∧ yX4_isIn.cls ≠ "java/lang/invoke/VarHandle" ∧ (parseMethodDescriptor yX4_isIn.desc).map (fun d => d.parameters.length) = some 3 := by decide +kernel
def f_X4_isIn (p0 : Int32) (p1 : Int32) (p2 : Int32) : Bool :=
  if p0 < p1 then
    false
  else
    if p2 < p0 then
      false
    else
      true
set_option maxRecDepth 100000 in
set_option maxHeartbeats 4000000 in
theorem k_X4_isIn (l : Launch) (g : gE) (p0 : Int32) (p1 : Int32) (p2 : Int32) : FnI l g yX4_isIn wA_X4_isIn { frames := 0, cells := 0, slots := 0, locals := 0 } [.int p0, .int p1, .int p2] ([]) (b2i (f_X4_isIn p0 p1 p2)) ([]) := by
  generalize hR : f_X4_isIn p0 p1 p2 = R_
  refine fEntry (As := [.int p0, .int p1, .int p2]) (maxL := 3) (ret := (some .boolean)) (by decide) rfl [some (.int p0), some (.int p1), some (.int p2)] (Nat.le_of_ble_eq_true rfl) (lvInB.to (lvInB.sm (lvInB.sm (lvInB.sm lvInB.nil)))) ?_
  intro p e s m below meth c A C hr hlocks hname hA
  have C : Cx p s m _ c g A cX4_isIn 3 wA_X4_isIn RX4 := C
  rw [f_X4_isIn] at hR
  refine g_iload_n C dX4_isIn_0 rfl 1 rfl ?_
  refine g_iload_n C dX4_isIn_1 rfl 2 rfl ?_
  refine g_icmp_lt C dX4_isIn_2 hR 14 5 (by decide) rfl (fun c_2 hR => ?_) (fun c_2 hR => ?_)
  · refine g_iconst C dX4_isIn_14 0 ic_0 15 rfl ?_
    subst hR
    exact g_zret C hr hlocks (by decide) hA rfl (by first | (dsimp only; done) | rfl) dX4_isIn_15
  · refine g_iload_n C dX4_isIn_5 rfl 6 rfl ?_
    refine g_iload_n C dX4_isIn_6 rfl 7 rfl ?_
    refine g_icmp_gt C dX4_isIn_7 hR 14 10 (by decide) rfl (fun c_7 hR => ?_) (fun c_7 hR => ?_)
    · refine g_iconst C dX4_isIn_14 0 ic_0 15 rfl ?_
      subst hR
      exact g_zret C hr hlocks (by decide) hA rfl (by first | (dsimp only; done) | rfl) dX4_isIn_15
    · refine g_iconst C dX4_isIn_10 1 ic_1 11 rfl ?_
      refine g_goto C dX4_isIn_11 15 (by decide) ?_
      subst hR
      exact g_zret C hr hlocks (by decide) hA rfl (by first | (dsimp only; done) | rfl) dX4_isIn_15
theorem hd_X4_bound : yX4_bound.cls = RX4 ∧ yX4_bound.cls ≠ "java/lang/invoke/MethodHandle" ∧ yX4_bound.cls ≠ "java/lang/invoke/VarHandle" ∧ (parseMethodDescriptor yX4_bound.desc).map (fun d => d.parameters.length) = some 3 := by decide +kernel
def f_X4_bound (p0 : Int32) (p1 : Int32) (p2 : Int32) : Int32 :=
  if p1 ≤ p0 then
    if p0 ≤ p2 then
      0
    else
      (-6)
  else
    (-4)
set_option maxRecDepth 100000 in
set_option maxHeartbeats 4000000 in
theorem k_X4_bound (l : Launch) (g : gE) (p0 : Int32) (p1 : Int32) (p2 : Int32) : FnI l g yX4_bound wA_X4_bound { frames := 0, cells := 0, slots := 0, locals := 0 } [.int p0, .int p1, .int p2] ([]) (f_X4_bound p0 p1 p2) ([]) := by
  generalize hR : f_X4_bound p0 p1 p2 = R_
  refine fEntry (As := [.int p0, .int p1, .int p2]) (maxL := 3) (ret := (some .int)) (by decide) rfl [some (.int p0), some (.int p1), some (.int p2)] (Nat.le_of_ble_eq_true rfl) (lvInB.to (lvInB.sm (lvInB.sm (lvInB.sm lvInB.nil)))) ?_
  intro p e s m below meth c A C hr hlocks hname hA
  have C : Cx p s m _ c g A cX4_bound 3 wA_X4_bound RX4 := C
  rw [f_X4_bound] at hR
  refine g_iload_n C dX4_bound_0 rfl 1 rfl ?_
  refine g_iload_n C dX4_bound_1 rfl 2 rfl ?_
  refine g_icmp_ge C dX4_bound_2 hR 10 5 (by decide) rfl (fun c_2 hR => ?_) (fun c_2 hR => ?_)
  · refine g_iload_n C dX4_bound_10 rfl 11 rfl ?_
    refine g_iload_n C dX4_bound_11 rfl 12 rfl ?_
    refine g_icmp_le C dX4_bound_12 hR 20 15 (by decide) rfl (fun c_12 hR => ?_) (fun c_12 hR => ?_)
    · refine g_iconst C dX4_bound_20 0 ic_0 21 rfl ?_
      subst hR
      exact g_iret C hr hlocks hA (by first | (dsimp only; done) | rfl) (by first | (dsimp only; done) | rfl) dX4_bound_21
    · refine g_bipush C dX4_bound_15 (-6) bp_m6 17 rfl ?_
      refine g_goto C dX4_bound_17 21 (by decide) ?_
      subst hR
      exact g_iret C hr hlocks hA (by first | (dsimp only; done) | rfl) (by first | (dsimp only; done) | rfl) dX4_bound_21
  · refine g_bipush C dX4_bound_5 (-4) bp_m4 7 rfl ?_
    refine g_goto C dX4_bound_7 21 (by decide) ?_
    subst hR
    exact g_iret C hr hlocks hA (by first | (dsimp only; done) | rfl) (by first | (dsimp only; done) | rfl) dX4_bound_21
theorem hd_X4_isWhom : yX4_isWhom.cls = RX4 ∧ yX4_isWhom.cls ≠ "java/lang/invoke/MethodHandle" ∧ yX4_isWhom.cls ≠ "java/lang/invoke/VarHandle" ∧ (parseMethodDescriptor yX4_isWhom.desc).map (fun d => d.parameters.length) = some 1 := by decide +kernel
def f_X4_isWhom (p0 : Int32) : Bool :=
  if p0 < 0 then
    false
  else
    if 3 ≤ p0 then
      false
    else
      true
set_option maxRecDepth 100000 in
set_option maxHeartbeats 4000000 in
theorem k_X4_isWhom (l : Launch) (g : gE) (p0 : Int32) : FnI l g yX4_isWhom wA_X4_isWhom { frames := 0, cells := 0, slots := 0, locals := 0 } [.int p0] ([]) (b2i (f_X4_isWhom p0)) ([]) := by
  generalize hR : f_X4_isWhom p0 = R_
  refine fEntry (As := [.int p0]) (maxL := 1) (ret := (some .boolean)) (by decide) rfl [some (.int p0)] (Nat.le_of_ble_eq_true rfl) (lvInB.to (lvInB.sm lvInB.nil)) ?_
  intro p e s m below meth c A C hr hlocks hname hA
  have C : Cx p s m _ c g A cX4_isWhom 1 wA_X4_isWhom RX4 := C
  rw [f_X4_isWhom] at hR
  refine g_iload_n C dX4_isWhom_0 rfl 1 rfl ?_
  refine g_if_lt C dX4_isWhom_1 hR 13 4 (by decide) rfl (fun c_1 hR => ?_) (fun c_1 hR => ?_)
  · refine g_iconst C dX4_isWhom_13 0 ic_0 14 rfl ?_
    subst hR
    exact g_zret C hr hlocks (by decide) hA rfl (by first | (dsimp only; done) | rfl) dX4_isWhom_14
  · refine g_iload_n C dX4_isWhom_4 rfl 5 rfl ?_
    refine g_iconst C dX4_isWhom_5 3 ic_3 6 rfl ?_
    refine g_icmp_ge C dX4_isWhom_6 hR 13 9 (by decide) rfl (fun c_6 hR => ?_) (fun c_6 hR => ?_)
    · refine g_iconst C dX4_isWhom_13 0 ic_0 14 rfl ?_
      subst hR
      exact g_zret C hr hlocks (by decide) hA rfl (by first | (dsimp only; done) | rfl) dX4_isWhom_14
    · refine g_iconst C dX4_isWhom_9 1 ic_1 10 rfl ?_
      refine g_goto C dX4_isWhom_10 14 (by decide) ?_
      subst hR
      exact g_zret C hr hlocks (by decide) hA rfl (by first | (dsimp only; done) | rfl) dX4_isWhom_14
theorem hd_X4_coldOf : yX4_coldOf.cls = RX4 ∧ yX4_coldOf.cls ≠ "java/lang/invoke/MethodHandle" ∧ yX4_coldOf.cls ≠ "java/lang/invoke/VarHandle" ∧ (parseMethodDescriptor yX4_coldOf.desc).map (fun d => d.parameters.length) = some 1 := by decide +kernel
def f_X4_coldOf (p0 : Int32) : Int32 :=
  if p0 = 0 then
    2
  else
    if p0 = 1 then
      3
    else
      1
set_option maxRecDepth 100000 in
set_option maxHeartbeats 4000000 in
theorem k_X4_coldOf (l : Launch) (g : gE) (p0 : Int32) : FnI l g yX4_coldOf wA_X4_coldOf { frames := 0, cells := 0, slots := 0, locals := 0 } [.int p0] ([]) (f_X4_coldOf p0) ([]) := by
  generalize hR : f_X4_coldOf p0 = R_
  refine fEntry (As := [.int p0]) (maxL := 1) (ret := (some .int)) (by decide) rfl [some (.int p0)] (Nat.le_of_ble_eq_true rfl) (lvInB.to (lvInB.sm lvInB.nil)) ?_
  intro p e s m below meth c A C hr hlocks hname hA
  have C : Cx p s m _ c g A cX4_coldOf 1 wA_X4_coldOf RX4 := C
  rw [f_X4_coldOf] at hR
  refine g_iload_n C dX4_coldOf_0 rfl 1 rfl ?_
  refine g_if_ne C dX4_coldOf_1 hR 8 4 (by decide) rfl (fun c_1 hR => ?_) (fun c_1 hR => ?_)
  · refine g_iload_n C dX4_coldOf_8 rfl 9 rfl ?_
    refine g_iconst C dX4_coldOf_9 1 ic_1 10 rfl ?_
    refine g_icmp_ne C dX4_coldOf_10 hR 17 13 (by decide) rfl (fun c_10 hR => ?_) (fun c_10 hR => ?_)
    · refine g_iconst C dX4_coldOf_17 1 ic_1 18 rfl ?_
      subst hR
      exact g_iret C hr hlocks hA (by first | (dsimp only; done) | rfl) (by first | (dsimp only; done) | rfl) dX4_coldOf_18
    · refine g_iconst C dX4_coldOf_13 3 ic_3 14 rfl ?_
      refine g_goto C dX4_coldOf_14 18 (by decide) ?_
      subst hR
      exact g_iret C hr hlocks hA (by first | (dsimp only; done) | rfl) (by first | (dsimp only; done) | rfl) dX4_coldOf_18
  · refine g_iconst C dX4_coldOf_4 2 ic_2 5 rfl ?_
    refine g_goto C dX4_coldOf_5 18 (by decide) ?_
    subst hR
    exact g_iret C hr hlocks hA (by first | (dsimp only; done) | rfl) (by first | (dsimp only; done) | rfl) dX4_coldOf_18
theorem hd_X4_heldPoints : yX4_heldPoints.cls = RX4 ∧ yX4_heldPoints.cls ≠ "java/lang/invoke/MethodHandle" ∧ yX4_heldPoints.cls ≠ "java/lang/invoke/VarHandle" ∧ (parseMethodDescriptor yX4_heldPoints.desc).map (fun d => d.parameters.length) = some 1 := by decide +kernel
def f_X4_heldPoints (p0 : Int32) : Int32 :=
  if p0 ≤ 240 then
    p0
  else
    240
set_option maxRecDepth 100000 in
set_option maxHeartbeats 4000000 in
theorem k_X4_heldPoints (l : Launch) (g : gE) (p0 : Int32) : FnI l g yX4_heldPoints wA_X4_heldPoints { frames := 0, cells := 0, slots := 0, locals := 0 } [.int p0] ([]) (f_X4_heldPoints p0) ([]) := by
  generalize hR : f_X4_heldPoints p0 = R_
  refine fEntry (As := [.int p0]) (maxL := 1) (ret := (some .int)) (by decide) rfl [some (.int p0)] (Nat.le_of_ble_eq_true rfl) (lvInB.to (lvInB.sm lvInB.nil)) ?_
  intro p e s m below meth c A C hr hlocks hname hA
  have C : Cx p s m _ c g A cX4_heldPoints 1 wA_X4_heldPoints RX4 := C
  rw [f_X4_heldPoints] at hR
  refine g_iload_n C dX4_heldPoints_0 rfl 1 rfl ?_
  refine g_sipush C dX4_heldPoints_1 240 sp_240 4 rfl ?_
  refine g_icmp_le C dX4_heldPoints_4 hR 13 7 (by decide) rfl (fun c_4 hR => ?_) (fun c_4 hR => ?_)
  · refine g_iload_n C dX4_heldPoints_13 rfl 14 rfl ?_
    subst hR
    exact g_iret C hr hlocks hA (by first | (dsimp only; done) | rfl) (by first | (dsimp only; done) | rfl) dX4_heldPoints_14
  · refine g_sipush C dX4_heldPoints_7 240 sp_240 10 rfl ?_
    refine g_goto C dX4_heldPoints_10 14 (by decide) ?_
    subst hR
    exact g_iret C hr hlocks hA (by first | (dsimp only; done) | rfl) (by first | (dsimp only; done) | rfl) dX4_heldPoints_14
theorem hd_X4_stageAt : yX4_stageAt.cls = RX4 ∧ yX4_stageAt.cls ≠ "java/lang/invoke/MethodHandle" ∧ yX4_stageAt.cls ≠ "java/lang/invoke/VarHandle" ∧ (parseMethodDescriptor yX4_stageAt.desc).map (fun d => d.parameters.length) = some 1 := by decide +kernel
def f_X4_stageAt (p0 : Int32) : Int32 :=
  if (p0 / 48) ≤ 4 then
    (p0 / 48)
  else
    4
set_option maxRecDepth 100000 in
set_option maxHeartbeats 4000000 in
theorem k_X4_stageAt (l : Launch) (g : gE) (p0 : Int32) : FnI l g yX4_stageAt wA_X4_stageAt { frames := 0, cells := 0, slots := 0, locals := 0 } [.int p0] ([]) (f_X4_stageAt p0) ([]) := by
  generalize hR : f_X4_stageAt p0 = R_
  refine fEntry (As := [.int p0]) (maxL := 1) (ret := (some .int)) (by decide) rfl [some (.int p0)] (Nat.le_of_ble_eq_true rfl) (lvInB.to (lvInB.sm lvInB.nil)) ?_
  intro p e s m below meth c A C hr hlocks hname hA
  have C : Cx p s m _ c g A cX4_stageAt 1 wA_X4_stageAt RX4 := C
  rw [f_X4_stageAt] at hR
  refine g_iload_n C dX4_stageAt_0 rfl 1 rfl ?_
  refine g_bipush C dX4_stageAt_1 48 bp_48 3 rfl ?_
  refine g_idiv C dX4_stageAt_3 (by decide) 4 rfl ?_
  refine g_iconst C dX4_stageAt_4 4 ic_4 5 rfl ?_
  refine g_icmp_le C dX4_stageAt_5 hR 12 8 (by decide) rfl (fun c_5 hR => ?_) (fun c_5 hR => ?_)
  · refine g_iload_n C dX4_stageAt_12 rfl 13 rfl ?_
    refine g_bipush C dX4_stageAt_13 48 bp_48 15 rfl ?_
    refine g_idiv C dX4_stageAt_15 (by decide) 16 rfl ?_
    subst hR
    exact g_iret C hr hlocks hA (by first | (dsimp only; done) | rfl) (by first | (dsimp only; done) | rfl) dX4_stageAt_16
  · refine g_iconst C dX4_stageAt_8 4 ic_4 9 rfl ?_
    refine g_goto C dX4_stageAt_9 16 (by decide) ?_
    subst hR
    exact g_iret C hr hlocks hA (by first | (dsimp only; done) | rfl) (by first | (dsimp only; done) | rfl) dX4_stageAt_16
theorem hd_X4_isTest : yX4_isTest.cls = RX4 ∧ yX4_isTest.cls ≠ "java/lang/invoke/MethodHandle" ∧ yX4_isTest.cls ≠ "java/lang/invoke/VarHandle" ∧ (parseMethodDescriptor yX4_isTest.desc).map (fun d => d.parameters.length) = some 1 := by decide +kernel
def f_X4_isTest (p0 : Int32) : Bool :=
  if p0 < 0 then
    false
  else
    if 4 ≤ p0 then
      false
    else
      true
set_option maxRecDepth 100000 in
set_option maxHeartbeats 4000000 in
theorem k_X4_isTest (l : Launch) (g : gE) (p0 : Int32) : FnI l g yX4_isTest wA_X4_isTest { frames := 0, cells := 0, slots := 0, locals := 0 } [.int p0] ([]) (b2i (f_X4_isTest p0)) ([]) := by
  generalize hR : f_X4_isTest p0 = R_
  refine fEntry (As := [.int p0]) (maxL := 1) (ret := (some .boolean)) (by decide) rfl [some (.int p0)] (Nat.le_of_ble_eq_true rfl) (lvInB.to (lvInB.sm lvInB.nil)) ?_
  intro p e s m below meth c A C hr hlocks hname hA
  have C : Cx p s m _ c g A cX4_isTest 1 wA_X4_isTest RX4 := C
  rw [f_X4_isTest] at hR
  refine g_iload_n C dX4_isTest_0 rfl 1 rfl ?_
  refine g_if_lt C dX4_isTest_1 hR 13 4 (by decide) rfl (fun c_1 hR => ?_) (fun c_1 hR => ?_)
  · refine g_iconst C dX4_isTest_13 0 ic_0 14 rfl ?_
    subst hR
    exact g_zret C hr hlocks (by decide) hA rfl (by first | (dsimp only; done) | rfl) dX4_isTest_14
  · refine g_iload_n C dX4_isTest_4 rfl 5 rfl ?_
    refine g_iconst C dX4_isTest_5 4 ic_4 6 rfl ?_
    refine g_icmp_ge C dX4_isTest_6 hR 13 9 (by decide) rfl (fun c_6 hR => ?_) (fun c_6 hR => ?_)
    · refine g_iconst C dX4_isTest_13 0 ic_0 14 rfl ?_
      subst hR
      exact g_zret C hr hlocks (by decide) hA rfl (by first | (dsimp only; done) | rfl) dX4_isTest_14
    · refine g_iconst C dX4_isTest_9 1 ic_1 10 rfl ?_
      refine g_goto C dX4_isTest_10 14 (by decide) ?_
      subst hR
      exact g_zret C hr hlocks (by decide) hA rfl (by first | (dsimp only; done) | rfl) dX4_isTest_14
theorem hd_X4_held : yX4_held.cls = RX4 ∧ yX4_held.cls ≠ "java/lang/invoke/MethodHandle" ∧ yX4_held.cls ≠ "java/lang/invoke/VarHandle" ∧ (parseMethodDescriptor yX4_held.desc).map (fun d => d.parameters.length) = some 1 := by decide +kernel
def f_X4_held (p0 : Int32) : Int32 :=
  if 0 ≤ p0 then
    if p0 ≤ 10 then
      p0
    else
      10
  else
    0
set_option maxRecDepth 100000 in
set_option maxHeartbeats 4000000 in
theorem k_X4_held (l : Launch) (g : gE) (p0 : Int32) : FnI l g yX4_held wA_X4_held { frames := 0, cells := 0, slots := 0, locals := 0 } [.int p0] ([]) (f_X4_held p0) ([]) := by
  generalize hR : f_X4_held p0 = R_
  refine fEntry (As := [.int p0]) (maxL := 1) (ret := (some .int)) (by decide) rfl [some (.int p0)] (Nat.le_of_ble_eq_true rfl) (lvInB.to (lvInB.sm lvInB.nil)) ?_
  intro p e s m below meth c A C hr hlocks hname hA
  have C : Cx p s m _ c g A cX4_held 1 wA_X4_held RX4 := C
  rw [f_X4_held] at hR
  refine g_iload_n C dX4_held_0 rfl 1 rfl ?_
  refine g_if_ge C dX4_held_1 hR 8 4 (by decide) rfl (fun c_1 hR => ?_) (fun c_1 hR => ?_)
  · refine g_iload_n C dX4_held_8 rfl 9 rfl ?_
    refine g_bipush C dX4_held_9 10 bp_10 11 rfl ?_
    refine g_icmp_le C dX4_held_11 hR 19 14 (by decide) rfl (fun c_11 hR => ?_) (fun c_11 hR => ?_)
    · refine g_iload_n C dX4_held_19 rfl 20 rfl ?_
      subst hR
      exact g_iret C hr hlocks hA (by first | (dsimp only; done) | rfl) (by first | (dsimp only; done) | rfl) dX4_held_20
    · refine g_bipush C dX4_held_14 10 bp_10 16 rfl ?_
      refine g_goto C dX4_held_16 20 (by decide) ?_
      subst hR
      exact g_iret C hr hlocks hA (by first | (dsimp only; done) | rfl) (by first | (dsimp only; done) | rfl) dX4_held_20
  · refine g_iconst C dX4_held_4 0 ic_0 5 rfl ?_
    refine g_goto C dX4_held_5 20 (by decide) ?_
    subst hR
    exact g_iret C hr hlocks hA (by first | (dsimp only; done) | rfl) (by first | (dsimp only; done) | rfl) dX4_held_20
theorem hd_X4_tenthsOf : yX4_tenthsOf.cls = RX4 ∧ yX4_tenthsOf.cls ≠ "java/lang/invoke/MethodHandle" ∧ yX4_tenthsOf.cls ≠ "java/lang/invoke/VarHandle" ∧ (parseMethodDescriptor yX4_tenthsOf.desc).map (fun d => d.parameters.length) = some 2 := by decide +kernel
def f_X4_tenthsOf (p0 : Int32) (p1 : Int32) : Int32 :=
  if p0 = 0 then
    if p1 = 0 then
      0
    else
      if p1 = 1 then
        1
      else
        if p1 = 2 then
          3
        else
          if p1 = 3 then
            6
          else
            9
  else
    if p0 = 1 then
      if 2 ≤ p1 then
        if p1 = 2 then
          2
        else
          if p1 = 3 then
            7
          else
            10
      else
        0
    else
      if p0 = 2 then
        if p1 = 0 then
          0
        else
          if p1 = 1 then
            2
          else
            if p1 = 2 then
              5
            else
              if p1 = 3 then
                9
              else
                10
      else
        if 2 ≤ p1 then
          if p1 = 2 then
            2
          else
            if p1 = 3 then
              4
            else
              8
        else
          1
set_option maxRecDepth 100000 in
set_option maxHeartbeats 4000000 in
theorem k_X4_tenthsOf (l : Launch) (g : gE) (p0 : Int32) (p1 : Int32) : FnI l g yX4_tenthsOf wA_X4_tenthsOf { frames := 0, cells := 0, slots := 0, locals := 0 } [.int p0, .int p1] ([]) (f_X4_tenthsOf p0 p1) ([]) := by
  generalize hR : f_X4_tenthsOf p0 p1 = R_
  refine fEntry (As := [.int p0, .int p1]) (maxL := 2) (ret := (some .int)) (by decide) rfl [some (.int p0), some (.int p1)] (Nat.le_of_ble_eq_true rfl) (lvInB.to (lvInB.sm (lvInB.sm lvInB.nil))) ?_
  intro p e s m below meth c A C hr hlocks hname hA
  have C : Cx p s m _ c g A cX4_tenthsOf 2 wA_X4_tenthsOf RX4 := C
  rw [f_X4_tenthsOf] at hR
  refine g_iload_n C dX4_tenthsOf_0 rfl 1 rfl ?_
  rcases Decidable.em (p0 = 0) with c_1_0 | c_1_0
  · have hR := (if_pos c_1_0).symm.trans hR
    refine g_tableIn C dX4_tenthsOf_1 0 c_1_0 (27) 28 (by decide) ?_
    refine g_iload_n C dX4_tenthsOf_28 rfl 29 rfl ?_
    refine g_if_ne C dX4_tenthsOf_29 hR 36 32 (by decide) rfl (fun c_29 hR => ?_) (fun c_29 hR => ?_)
    · refine g_iload_n C dX4_tenthsOf_36 rfl 37 rfl ?_
      refine g_iconst C dX4_tenthsOf_37 1 ic_1 38 rfl ?_
      refine g_icmp_ne C dX4_tenthsOf_38 hR 45 41 (by decide) rfl (fun c_38 hR => ?_) (fun c_38 hR => ?_)
      · refine g_iload_n C dX4_tenthsOf_45 rfl 46 rfl ?_
        refine g_iconst C dX4_tenthsOf_46 2 ic_2 47 rfl ?_
        refine g_icmp_ne C dX4_tenthsOf_47 hR 54 50 (by decide) rfl (fun c_47 hR => ?_) (fun c_47 hR => ?_)
        · refine g_iload_n C dX4_tenthsOf_54 rfl 55 rfl ?_
          refine g_iconst C dX4_tenthsOf_55 3 ic_3 56 rfl ?_
          refine g_icmp_ne C dX4_tenthsOf_56 hR 64 59 (by decide) rfl (fun c_56 hR => ?_) (fun c_56 hR => ?_)
          · refine g_bipush C dX4_tenthsOf_64 9 bp_9 66 rfl ?_
            subst hR
            exact g_iret C hr hlocks hA (by first | (dsimp only; done) | rfl) (by first | (dsimp only; done) | rfl) dX4_tenthsOf_66
          · refine g_bipush C dX4_tenthsOf_59 6 bp_6 61 rfl ?_
            refine g_goto C dX4_tenthsOf_61 66 (by decide) ?_
            subst hR
            exact g_iret C hr hlocks hA (by first | (dsimp only; done) | rfl) (by first | (dsimp only; done) | rfl) dX4_tenthsOf_66
        · refine g_iconst C dX4_tenthsOf_50 3 ic_3 51 rfl ?_
          refine g_goto C dX4_tenthsOf_51 66 (by decide) ?_
          subst hR
          exact g_iret C hr hlocks hA (by first | (dsimp only; done) | rfl) (by first | (dsimp only; done) | rfl) dX4_tenthsOf_66
      · refine g_iconst C dX4_tenthsOf_41 1 ic_1 42 rfl ?_
        refine g_goto C dX4_tenthsOf_42 66 (by decide) ?_
        subst hR
        exact g_iret C hr hlocks hA (by first | (dsimp only; done) | rfl) (by first | (dsimp only; done) | rfl) dX4_tenthsOf_66
    · refine g_iconst C dX4_tenthsOf_32 0 ic_0 33 rfl ?_
      refine g_goto C dX4_tenthsOf_33 66 (by decide) ?_
      subst hR
      exact g_iret C hr hlocks hA (by first | (dsimp only; done) | rfl) (by first | (dsimp only; done) | rfl) dX4_tenthsOf_66
  · have hR := (if_neg c_1_0).symm.trans hR
    rcases Decidable.em (p0 = 1) with c_1_1 | c_1_1
    · have hR := (if_pos c_1_1).symm.trans hR
      refine g_tableIn C dX4_tenthsOf_1 1 c_1_1 (66) 67 (by decide) ?_
      refine g_iload_n C dX4_tenthsOf_67 rfl 68 rfl ?_
      refine g_iconst C dX4_tenthsOf_68 2 ic_2 69 rfl ?_
      refine g_icmp_ge C dX4_tenthsOf_69 hR 76 72 (by decide) rfl (fun c_69 hR => ?_) (fun c_69 hR => ?_)
      · refine g_iload_n C dX4_tenthsOf_76 rfl 77 rfl ?_
        refine g_iconst C dX4_tenthsOf_77 2 ic_2 78 rfl ?_
        refine g_icmp_ne C dX4_tenthsOf_78 hR 85 81 (by decide) rfl (fun c_78 hR => ?_) (fun c_78 hR => ?_)
        · refine g_iload_n C dX4_tenthsOf_85 rfl 86 rfl ?_
          refine g_iconst C dX4_tenthsOf_86 3 ic_3 87 rfl ?_
          refine g_icmp_ne C dX4_tenthsOf_87 hR 95 90 (by decide) rfl (fun c_87 hR => ?_) (fun c_87 hR => ?_)
          · refine g_bipush C dX4_tenthsOf_95 10 bp_10 97 rfl ?_
            subst hR
            exact g_iret C hr hlocks hA (by first | (dsimp only; done) | rfl) (by first | (dsimp only; done) | rfl) dX4_tenthsOf_97
          · refine g_bipush C dX4_tenthsOf_90 7 bp_7 92 rfl ?_
            refine g_goto C dX4_tenthsOf_92 97 (by decide) ?_
            subst hR
            exact g_iret C hr hlocks hA (by first | (dsimp only; done) | rfl) (by first | (dsimp only; done) | rfl) dX4_tenthsOf_97
        · refine g_iconst C dX4_tenthsOf_81 2 ic_2 82 rfl ?_
          refine g_goto C dX4_tenthsOf_82 97 (by decide) ?_
          subst hR
          exact g_iret C hr hlocks hA (by first | (dsimp only; done) | rfl) (by first | (dsimp only; done) | rfl) dX4_tenthsOf_97
      · refine g_iconst C dX4_tenthsOf_72 0 ic_0 73 rfl ?_
        refine g_goto C dX4_tenthsOf_73 97 (by decide) ?_
        subst hR
        exact g_iret C hr hlocks hA (by first | (dsimp only; done) | rfl) (by first | (dsimp only; done) | rfl) dX4_tenthsOf_97
    · have hR := (if_neg c_1_1).symm.trans hR
      rcases Decidable.em (p0 = 2) with c_1_2 | c_1_2
      · have hR := (if_pos c_1_2).symm.trans hR
        refine g_tableIn C dX4_tenthsOf_1 2 c_1_2 (97) 98 (by decide) ?_
        refine g_iload_n C dX4_tenthsOf_98 rfl 99 rfl ?_
        refine g_if_ne C dX4_tenthsOf_99 hR 106 102 (by decide) rfl (fun c_99 hR => ?_) (fun c_99 hR => ?_)
        · refine g_iload_n C dX4_tenthsOf_106 rfl 107 rfl ?_
          refine g_iconst C dX4_tenthsOf_107 1 ic_1 108 rfl ?_
          refine g_icmp_ne C dX4_tenthsOf_108 hR 115 111 (by decide) rfl (fun c_108 hR => ?_) (fun c_108 hR => ?_)
          · refine g_iload_n C dX4_tenthsOf_115 rfl 116 rfl ?_
            refine g_iconst C dX4_tenthsOf_116 2 ic_2 117 rfl ?_
            refine g_icmp_ne C dX4_tenthsOf_117 hR 124 120 (by decide) rfl (fun c_117 hR => ?_) (fun c_117 hR => ?_)
            · refine g_iload_n C dX4_tenthsOf_124 rfl 125 rfl ?_
              refine g_iconst C dX4_tenthsOf_125 3 ic_3 126 rfl ?_
              refine g_icmp_ne C dX4_tenthsOf_126 hR 134 129 (by decide) rfl (fun c_126 hR => ?_) (fun c_126 hR => ?_)
              · refine g_bipush C dX4_tenthsOf_134 10 bp_10 136 rfl ?_
                subst hR
                exact g_iret C hr hlocks hA (by first | (dsimp only; done) | rfl) (by first | (dsimp only; done) | rfl) dX4_tenthsOf_136
              · refine g_bipush C dX4_tenthsOf_129 9 bp_9 131 rfl ?_
                refine g_goto C dX4_tenthsOf_131 136 (by decide) ?_
                subst hR
                exact g_iret C hr hlocks hA (by first | (dsimp only; done) | rfl) (by first | (dsimp only; done) | rfl) dX4_tenthsOf_136
            · refine g_iconst C dX4_tenthsOf_120 5 ic_5 121 rfl ?_
              refine g_goto C dX4_tenthsOf_121 136 (by decide) ?_
              subst hR
              exact g_iret C hr hlocks hA (by first | (dsimp only; done) | rfl) (by first | (dsimp only; done) | rfl) dX4_tenthsOf_136
          · refine g_iconst C dX4_tenthsOf_111 2 ic_2 112 rfl ?_
            refine g_goto C dX4_tenthsOf_112 136 (by decide) ?_
            subst hR
            exact g_iret C hr hlocks hA (by first | (dsimp only; done) | rfl) (by first | (dsimp only; done) | rfl) dX4_tenthsOf_136
        · refine g_iconst C dX4_tenthsOf_102 0 ic_0 103 rfl ?_
          refine g_goto C dX4_tenthsOf_103 136 (by decide) ?_
          subst hR
          exact g_iret C hr hlocks hA (by first | (dsimp only; done) | rfl) (by first | (dsimp only; done) | rfl) dX4_tenthsOf_136
      · have hR := (if_neg c_1_2).symm.trans hR
        refine g_tableD C dX4_tenthsOf_1 [0, 1, 2] (ne_c c_1_0 (ne_c c_1_1 (ne_c c_1_2 ne_n))) (by decide +kernel) (by decide +kernel) 137 (by decide) ?_
        refine g_iload_n C dX4_tenthsOf_137 rfl 138 rfl ?_
        refine g_iconst C dX4_tenthsOf_138 2 ic_2 139 rfl ?_
        refine g_icmp_ge C dX4_tenthsOf_139 hR 146 142 (by decide) rfl (fun c_139 hR => ?_) (fun c_139 hR => ?_)
        · refine g_iload_n C dX4_tenthsOf_146 rfl 147 rfl ?_
          refine g_iconst C dX4_tenthsOf_147 2 ic_2 148 rfl ?_
          refine g_icmp_ne C dX4_tenthsOf_148 hR 155 151 (by decide) rfl (fun c_148 hR => ?_) (fun c_148 hR => ?_)
          · refine g_iload_n C dX4_tenthsOf_155 rfl 156 rfl ?_
            refine g_iconst C dX4_tenthsOf_156 3 ic_3 157 rfl ?_
            refine g_icmp_ne C dX4_tenthsOf_157 hR 164 160 (by decide) rfl (fun c_157 hR => ?_) (fun c_157 hR => ?_)
            · refine g_bipush C dX4_tenthsOf_164 8 bp_8 166 rfl ?_
              subst hR
              exact g_iret C hr hlocks hA (by first | (dsimp only; done) | rfl) (by first | (dsimp only; done) | rfl) dX4_tenthsOf_166
            · refine g_iconst C dX4_tenthsOf_160 4 ic_4 161 rfl ?_
              refine g_goto C dX4_tenthsOf_161 166 (by decide) ?_
              subst hR
              exact g_iret C hr hlocks hA (by first | (dsimp only; done) | rfl) (by first | (dsimp only; done) | rfl) dX4_tenthsOf_166
          · refine g_iconst C dX4_tenthsOf_151 2 ic_2 152 rfl ?_
            refine g_goto C dX4_tenthsOf_152 166 (by decide) ?_
            subst hR
            exact g_iret C hr hlocks hA (by first | (dsimp only; done) | rfl) (by first | (dsimp only; done) | rfl) dX4_tenthsOf_166
        · refine g_iconst C dX4_tenthsOf_142 1 ic_1 143 rfl ?_
          refine g_goto C dX4_tenthsOf_143 166 (by decide) ?_
          subst hR
          exact g_iret C hr hlocks hA (by first | (dsimp only; done) | rfl) (by first | (dsimp only; done) | rfl) dX4_tenthsOf_166
theorem hd_X4_harmOf : yX4_harmOf.cls = RX4 ∧ yX4_harmOf.cls ≠ "java/lang/invoke/MethodHandle" ∧ yX4_harmOf.cls ≠ "java/lang/invoke/VarHandle" ∧ (parseMethodDescriptor yX4_harmOf.desc).map (fun d => d.parameters.length) = some 2 := by decide +kernel
def f_X4_harmOf (p0 : Int32) (p1 : Int32) : Int32 :=
  if p0 = 0 then
    if p1 ≤ 1 then
      0
    else
      (p1 - 1)
  else
    if p0 = 1 then
      if p1 ≤ 2 then
        0
      else
        (p1 - 2)
    else
      if p0 = 2 then
        if p1 ≤ 3 then
          0
        else
          (p1 - 3)
      else
        if p1 ≤ 9 then
          0
        else
          (p1 - 9)
set_option maxRecDepth 100000 in
set_option maxHeartbeats 4000000 in
theorem k_X4_harmOf (l : Launch) (g : gE) (p0 : Int32) (p1 : Int32) : FnI l g yX4_harmOf wA_X4_harmOf { frames := 0, cells := 0, slots := 0, locals := 0 } [.int p0, .int p1] ([]) (f_X4_harmOf p0 p1) ([]) := by
  generalize hR : f_X4_harmOf p0 p1 = R_
  refine fEntry (As := [.int p0, .int p1]) (maxL := 3) (ret := (some .int)) (by decide) rfl [some (.int p0), some (.int p1), none] (Nat.le_of_ble_eq_true rfl) (lvInB.to (lvInB.sm (lvInB.sm (lvInB.nn lvInB.nil)))) ?_
  intro p e s m below meth c A C hr hlocks hname hA
  have C : Cx p s m _ c g A cX4_harmOf 3 wA_X4_harmOf RX4 := C
  rw [f_X4_harmOf] at hR
  refine g_iload_n C dX4_harmOf_0 rfl 1 rfl ?_
  refine g_if_ne C dX4_harmOf_1 hR 8 4 (by decide) rfl (fun c_1 hR => ?_) (fun c_1 hR => ?_)
  · refine g_iload_n C dX4_harmOf_8 rfl 9 rfl ?_
    refine g_iconst C dX4_harmOf_9 1 ic_1 10 rfl ?_
    refine g_icmp_ne C dX4_harmOf_10 hR 17 13 (by decide) rfl (fun c_10 hR => ?_) (fun c_10 hR => ?_)
    · refine g_iload_n C dX4_harmOf_17 rfl 18 rfl ?_
      refine g_iconst C dX4_harmOf_18 2 ic_2 19 rfl ?_
      refine g_icmp_ne C dX4_harmOf_19 hR 26 22 (by decide) rfl (fun c_19 hR => ?_) (fun c_19 hR => ?_)
      · refine g_bipush C dX4_harmOf_26 9 bp_9 28 rfl ?_
        refine g_istore_n C dX4_harmOf_28 [_, _, _] (Nat.le_of_ble_eq_true rfl) rfl rfl 29 rfl ?_
        refine g_iload_n C dX4_harmOf_29 rfl 30 rfl ?_
        refine g_iload_n C dX4_harmOf_30 rfl 31 rfl ?_
        refine g_icmp_le C dX4_harmOf_31 hR 40 34 (by decide) rfl (fun c_31 hR => ?_) (fun c_31 hR => ?_)
        · refine g_iconst C dX4_harmOf_40 0 ic_0 41 rfl ?_
          subst hR
          exact g_iret C hr hlocks hA (by first | (dsimp only; done) | rfl) (by first | (dsimp only; done) | rfl) dX4_harmOf_41
        · refine g_iload_n C dX4_harmOf_34 rfl 35 rfl ?_
          refine g_iload_n C dX4_harmOf_35 rfl 36 rfl ?_
          refine g_isub C dX4_harmOf_36 37 rfl ?_
          refine g_goto C dX4_harmOf_37 41 (by decide) ?_
          subst hR
          exact g_iret C hr hlocks hA (by first | (dsimp only; done) | rfl) (by first | (dsimp only; done) | rfl) dX4_harmOf_41
      · refine g_iconst C dX4_harmOf_22 3 ic_3 23 rfl ?_
        refine g_goto C dX4_harmOf_23 28 (by decide) ?_
        refine g_istore_n C dX4_harmOf_28 [_, _, _] (Nat.le_of_ble_eq_true rfl) rfl rfl 29 rfl ?_
        refine g_iload_n C dX4_harmOf_29 rfl 30 rfl ?_
        refine g_iload_n C dX4_harmOf_30 rfl 31 rfl ?_
        refine g_icmp_le C dX4_harmOf_31 hR 40 34 (by decide) rfl (fun c_31 hR => ?_) (fun c_31 hR => ?_)
        · refine g_iconst C dX4_harmOf_40 0 ic_0 41 rfl ?_
          subst hR
          exact g_iret C hr hlocks hA (by first | (dsimp only; done) | rfl) (by first | (dsimp only; done) | rfl) dX4_harmOf_41
        · refine g_iload_n C dX4_harmOf_34 rfl 35 rfl ?_
          refine g_iload_n C dX4_harmOf_35 rfl 36 rfl ?_
          refine g_isub C dX4_harmOf_36 37 rfl ?_
          refine g_goto C dX4_harmOf_37 41 (by decide) ?_
          subst hR
          exact g_iret C hr hlocks hA (by first | (dsimp only; done) | rfl) (by first | (dsimp only; done) | rfl) dX4_harmOf_41
    · refine g_iconst C dX4_harmOf_13 2 ic_2 14 rfl ?_
      refine g_goto C dX4_harmOf_14 28 (by decide) ?_
      refine g_istore_n C dX4_harmOf_28 [_, _, _] (Nat.le_of_ble_eq_true rfl) rfl rfl 29 rfl ?_
      refine g_iload_n C dX4_harmOf_29 rfl 30 rfl ?_
      refine g_iload_n C dX4_harmOf_30 rfl 31 rfl ?_
      refine g_icmp_le C dX4_harmOf_31 hR 40 34 (by decide) rfl (fun c_31 hR => ?_) (fun c_31 hR => ?_)
      · refine g_iconst C dX4_harmOf_40 0 ic_0 41 rfl ?_
        subst hR
        exact g_iret C hr hlocks hA (by first | (dsimp only; done) | rfl) (by first | (dsimp only; done) | rfl) dX4_harmOf_41
      · refine g_iload_n C dX4_harmOf_34 rfl 35 rfl ?_
        refine g_iload_n C dX4_harmOf_35 rfl 36 rfl ?_
        refine g_isub C dX4_harmOf_36 37 rfl ?_
        refine g_goto C dX4_harmOf_37 41 (by decide) ?_
        subst hR
        exact g_iret C hr hlocks hA (by first | (dsimp only; done) | rfl) (by first | (dsimp only; done) | rfl) dX4_harmOf_41
  · refine g_iconst C dX4_harmOf_4 1 ic_1 5 rfl ?_
    refine g_goto C dX4_harmOf_5 28 (by decide) ?_
    refine g_istore_n C dX4_harmOf_28 [_, _, _] (Nat.le_of_ble_eq_true rfl) rfl rfl 29 rfl ?_
    refine g_iload_n C dX4_harmOf_29 rfl 30 rfl ?_
    refine g_iload_n C dX4_harmOf_30 rfl 31 rfl ?_
    refine g_icmp_le C dX4_harmOf_31 hR 40 34 (by decide) rfl (fun c_31 hR => ?_) (fun c_31 hR => ?_)
    · refine g_iconst C dX4_harmOf_40 0 ic_0 41 rfl ?_
      subst hR
      exact g_iret C hr hlocks hA (by first | (dsimp only; done) | rfl) (by first | (dsimp only; done) | rfl) dX4_harmOf_41
    · refine g_iload_n C dX4_harmOf_34 rfl 35 rfl ?_
      refine g_iload_n C dX4_harmOf_35 rfl 36 rfl ?_
      refine g_isub C dX4_harmOf_36 37 rfl ?_
      refine g_goto C dX4_harmOf_37 41 (by decide) ?_
      subst hR
      exact g_iret C hr hlocks hA (by first | (dsimp only; done) | rfl) (by first | (dsimp only; done) | rfl) dX4_harmOf_41
theorem hd_X4_timesFor : yX4_timesFor.cls = RX4 ∧ yX4_timesFor.cls ≠ "java/lang/invoke/MethodHandle" ∧ yX4_timesFor.cls ≠ "java/lang/invoke/VarHandle" ∧ (parseMethodDescriptor yX4_timesFor.desc).map (fun d => d.parameters.length) = some 1 := by decide +kernel
def f_X4_timesFor (p0 : Int32) : Int32 :=
  if p0 = 0 then
    1
  else
    if p0 = 1 then
      3
    else
      9
set_option maxRecDepth 100000 in
set_option maxHeartbeats 4000000 in
theorem k_X4_timesFor (l : Launch) (g : gE) (p0 : Int32) : FnI l g yX4_timesFor wA_X4_timesFor { frames := 0, cells := 0, slots := 0, locals := 0 } [.int p0] ([]) (f_X4_timesFor p0) ([]) := by
  generalize hR : f_X4_timesFor p0 = R_
  refine fEntry (As := [.int p0]) (maxL := 1) (ret := (some .int)) (by decide) rfl [some (.int p0)] (Nat.le_of_ble_eq_true rfl) (lvInB.to (lvInB.sm lvInB.nil)) ?_
  intro p e s m below meth c A C hr hlocks hname hA
  have C : Cx p s m _ c g A cX4_timesFor 1 wA_X4_timesFor RX4 := C
  rw [f_X4_timesFor] at hR
  refine g_iload_n C dX4_timesFor_0 rfl 1 rfl ?_
  refine g_if_ne C dX4_timesFor_1 hR 8 4 (by decide) rfl (fun c_1 hR => ?_) (fun c_1 hR => ?_)
  · refine g_iload_n C dX4_timesFor_8 rfl 9 rfl ?_
    refine g_iconst C dX4_timesFor_9 1 ic_1 10 rfl ?_
    refine g_icmp_ne C dX4_timesFor_10 hR 17 13 (by decide) rfl (fun c_10 hR => ?_) (fun c_10 hR => ?_)
    · refine g_bipush C dX4_timesFor_17 9 bp_9 19 rfl ?_
      subst hR
      exact g_iret C hr hlocks hA (by first | (dsimp only; done) | rfl) (by first | (dsimp only; done) | rfl) dX4_timesFor_19
    · refine g_iconst C dX4_timesFor_13 3 ic_3 14 rfl ?_
      refine g_goto C dX4_timesFor_14 19 (by decide) ?_
      subst hR
      exact g_iret C hr hlocks hA (by first | (dsimp only; done) | rfl) (by first | (dsimp only; done) | rfl) dX4_timesFor_19
  · refine g_iconst C dX4_timesFor_4 1 ic_1 5 rfl ?_
    refine g_goto C dX4_timesFor_5 19 (by decide) ?_
    subst hR
    exact g_iret C hr hlocks hA (by first | (dsimp only; done) | rfl) (by first | (dsimp only; done) | rfl) dX4_timesFor_19
theorem hd_X4_isStage : yX4_isStage.cls = RX4 ∧ yX4_isStage.cls ≠ "java/lang/invoke/MethodHandle" ∧ yX4_isStage.cls ≠ "java/lang/invoke/VarHandle" ∧ (parseMethodDescriptor yX4_isStage.desc).map (fun d => d.parameters.length) = some 1 := by decide +kernel
def f_X4_isStage (p0 : Int32) : Bool :=
  if p0 < 0 then
    false
  else
    if 5 ≤ p0 then
      false
    else
      true
set_option maxRecDepth 100000 in
set_option maxHeartbeats 4000000 in
theorem k_X4_isStage (l : Launch) (g : gE) (p0 : Int32) : FnI l g yX4_isStage wA_X4_isStage { frames := 0, cells := 0, slots := 0, locals := 0 } [.int p0] ([]) (b2i (f_X4_isStage p0)) ([]) := by
  generalize hR : f_X4_isStage p0 = R_
  refine fEntry (As := [.int p0]) (maxL := 1) (ret := (some .boolean)) (by decide) rfl [some (.int p0)] (Nat.le_of_ble_eq_true rfl) (lvInB.to (lvInB.sm lvInB.nil)) ?_
  intro p e s m below meth c A C hr hlocks hname hA
  have C : Cx p s m _ c g A cX4_isStage 1 wA_X4_isStage RX4 := C
  rw [f_X4_isStage] at hR
  refine g_iload_n C dX4_isStage_0 rfl 1 rfl ?_
  refine g_if_lt C dX4_isStage_1 hR 13 4 (by decide) rfl (fun c_1 hR => ?_) (fun c_1 hR => ?_)
  · refine g_iconst C dX4_isStage_13 0 ic_0 14 rfl ?_
    subst hR
    exact g_zret C hr hlocks (by decide) hA rfl (by first | (dsimp only; done) | rfl) dX4_isStage_14
  · refine g_iload_n C dX4_isStage_4 rfl 5 rfl ?_
    refine g_iconst C dX4_isStage_5 5 ic_5 6 rfl ?_
    refine g_icmp_ge C dX4_isStage_6 hR 13 9 (by decide) rfl (fun c_6 hR => ?_) (fun c_6 hR => ?_)
    · refine g_iconst C dX4_isStage_13 0 ic_0 14 rfl ?_
      subst hR
      exact g_zret C hr hlocks (by decide) hA rfl (by first | (dsimp only; done) | rfl) dX4_isStage_14
    · refine g_iconst C dX4_isStage_9 1 ic_1 10 rfl ?_
      refine g_goto C dX4_isStage_10 14 (by decide) ?_
      subst hR
      exact g_zret C hr hlocks (by decide) hA rfl (by first | (dsimp only; done) | rfl) dX4_isStage_14
theorem hd_X4_divisor : yX4_divisor.cls = RX4 ∧ yX4_divisor.cls ≠ "java/lang/invoke/MethodHandle" ∧ yX4_divisor.cls ≠ "java/lang/invoke/VarHandle" ∧ (parseMethodDescriptor yX4_divisor.desc).map (fun d => d.parameters.length) = some 2 := by decide +kernel
def f_X4_divisor_L17  (N_ : Nat) : Nat → Int64 → Int64 → Option (Int64 × Int64)
  | 0, _, _ => none
  | n_ + 1, x4, x6 =>
    if (lg_cmp x6 0) = 0 then
      some (x4, x6)
    else
      if x6 = 0 then none else
      f_X4_divisor_L17 N_ n_ x6 (x4 - x4 / x6 * x6)
set_option maxRecDepth 100000 in
set_option maxHeartbeats 4000000 in
theorem k_X4_divisor_L17 (l : Launch) (g : gE) {p : Program} {e : Env} {s : State} {m : MethodId} {args : Array Value} {below : List Frame} {meth : Method} {c : Code} {Q : State → Prop} {A : Nat → Prop}   (C : Cx p s m args c g A cX4_divisor 10 wA_X4_divisor RX4) (N_ : Nat) (x0 : Int64) (x2 : Int64) : ∀ (n_ : Nat) (x4 : Int64) (x6 : Int64) (rv_ : Int64 × Int64), f_X4_divisor_L17 N_ n_ x4 x6 = some rv_ → (Gm p l e (headSpec wA_X4_divisor ({ frames := 0, cells := 0, slots := 0, locals := 0 } : Room)).room s m args below meth c Q g A 10 0 0 ([]) [some (.long x0), none, some (.long x2), none, some (.long rv_.1), none, some (.long rv_.2), none, none, none] [] 42) → Gm p l e (headSpec wA_X4_divisor ({ frames := 0, cells := 0, slots := 0, locals := 0 } : Room)).room s m args below meth c Q g A 10 0 0 ([]) [some (.long x0), none, some (.long x2), none, some (.long x4), none, some (.long x6), none, none, none] [] 17 := by
  intro n_
  induction n_ with
  | zero =>
    intro x4 x6 rv_ hR
    simp [f_X4_divisor_L17] at hR
  | succ n_ ih =>
    intro x4 x6 rv_ hR hk
    rw [f_X4_divisor_L17] at hR
    refine g_lload C dX4_divisor_17 rfl 19 rfl ?_
    refine g_lconst C dX4_divisor_19 0 (by decide) 20 rfl ?_
    refine g_lcmp C dX4_divisor_20 21 rfl ?_
    refine g_if_eq C dX4_divisor_21 hR 42 24 (by decide) rfl (fun c_21 hR => ?_) (fun c_21 hR => ?_)
    · obtain rfl := Option.some.inj hR
      refine g_lv [some (.long x0), none, some (.long x2), none, some (.long x4), none, some (.long x6), none, none, none] (lvLe.sm (lvLe.nn (lvLe.sm (lvLe.nn (lvLe.sm (lvLe.nn (lvLe.sm (lvLe.nn (lvLe.nn (lvLe.nn lvLe.nil)))))))))) ?_
      exact hk
    · refine g_lload C dX4_divisor_24 rfl 26 rfl ?_
      refine g_lload C dX4_divisor_26 rfl 28 rfl ?_
      obtain ⟨h_28, hR⟩ := opt_n hR
      refine g_lrem C dX4_divisor_28 h_28 29 rfl ?_
      refine g_lstore C dX4_divisor_29 [_, _, _, _, _, _, _, _, _, _] (Nat.le_of_ble_eq_true rfl) rfl rfl 31 rfl ?_
      refine g_lload C dX4_divisor_31 rfl 33 rfl ?_
      refine g_lstore C dX4_divisor_33 [_, _, _, _, _, _, _, _, _, _] (Nat.le_of_ble_eq_true rfl) rfl rfl 35 rfl ?_
      refine g_lload C dX4_divisor_35 rfl 37 rfl ?_
      refine g_lstore C dX4_divisor_37 [_, _, _, _, _, _, _, _, _, _] (Nat.le_of_ble_eq_true rfl) rfl rfl 39 rfl ?_
      refine g_goto C dX4_divisor_39 17 (by decide) ?_
      refine g_lv [some (.long x0), none, some (.long x2), none, some (.long x6), none, some (.long (x4 - x4 / x6 * x6)), none, none, none] (lvLe.sm (lvLe.nn (lvLe.sm (lvLe.nn (lvLe.sm (lvLe.nn (lvLe.sm (lvLe.nn (lvLe.nn (lvLe.nn lvLe.nil)))))))))) ?_
      exact ih _ _ rv_ hR hk
def f_X4_divisor (p0 : Int64) (p1 : Int64) (N_ : Nat) : Option (Int64) :=
  if 0 ≤ (lg_cmp p0 0) then
    (f_X4_divisor_L17 N_ N_ p0 p1).bind fun v1 =>
    some v1.1
  else
    (f_X4_divisor_L17 N_ N_ (-p0) p1).bind fun v2 =>
    some v2.1
set_option maxRecDepth 100000 in
set_option maxHeartbeats 4000000 in
theorem k_X4_divisor (l : Launch) (g : gE) (p0 : Int64) (p1 : Int64) (N_ : Nat) (R_ : Int64) (hR : f_X4_divisor p0 p1 N_ = some R_) : FnL l g yX4_divisor wA_X4_divisor { frames := 0, cells := 0, slots := 0, locals := 0 } [.long p0, .long p1] ([]) R_ ([]) := by
  refine fEntry (As := [.long p0, .long p1]) (maxL := 10) (ret := (some .long)) (by decide) rfl [some (.long p0), none, some (.long p1), none, none, none, none, none, none, none] (Nat.le_of_ble_eq_true rfl) (lvInB.to (lvInB.sm (lvInB.nn (lvInB.sm (lvInB.nn (lvInB.nn (lvInB.nn (lvInB.nn (lvInB.nn (lvInB.nn (lvInB.nn lvInB.nil))))))))))) ?_
  intro p e s m below meth c A C hr hlocks hname hA
  have C : Cx p s m _ c g A cX4_divisor 10 wA_X4_divisor RX4 := C
  rw [f_X4_divisor] at hR
  refine g_lload_n C dX4_divisor_0 rfl 1 rfl ?_
  refine g_lconst C dX4_divisor_1 0 (by decide) 2 rfl ?_
  refine g_lcmp C dX4_divisor_2 3 rfl ?_
  refine g_if_ge C dX4_divisor_3 hR 11 6 (by decide) rfl (fun c_3 hR => ?_) (fun c_3 hR => ?_)
  · refine g_lload_n C dX4_divisor_11 rfl 12 rfl ?_
    refine g_lstore C dX4_divisor_12 [_, _, _, _, _, _, _, _, _, _] (Nat.le_of_ble_eq_true rfl) rfl rfl 14 rfl ?_
    refine g_lload_n C dX4_divisor_14 rfl 15 rfl ?_
    refine g_lstore C dX4_divisor_15 [_, _, _, _, _, _, _, _, _, _] (Nat.le_of_ble_eq_true rfl) rfl rfl 17 rfl ?_
    refine g_lv [some (.long p0), none, some (.long p1), none, some (.long p0), none, some (.long p1), none, none, none] (lvLe.sm (lvLe.nn (lvLe.sm (lvLe.nn (lvLe.sm (lvLe.nn (lvLe.sm (lvLe.nn (lvLe.nn (lvLe.nn lvLe.nil)))))))))) ?_
    obtain ⟨v1, hv1, hR⟩ := opt_b hR
    refine k_X4_divisor_L17 l g C N_ p0 p1 N_ p0 p1 _ hv1 ?_
    refine g_lload C dX4_divisor_42 rfl 44 rfl ?_
    obtain rfl := Option.some.inj hR
    exact g_lret C hr hlocks hA (by first | (dsimp only; done) | rfl) (by first | (dsimp only; done) | rfl) dX4_divisor_44
  · refine g_lload_n C dX4_divisor_6 rfl 7 rfl ?_
    refine g_lneg C dX4_divisor_7 8 rfl ?_
    refine g_goto C dX4_divisor_8 12 (by decide) ?_
    refine g_lstore C dX4_divisor_12 [_, _, _, _, _, _, _, _, _, _] (Nat.le_of_ble_eq_true rfl) rfl rfl 14 rfl ?_
    refine g_lload_n C dX4_divisor_14 rfl 15 rfl ?_
    refine g_lstore C dX4_divisor_15 [_, _, _, _, _, _, _, _, _, _] (Nat.le_of_ble_eq_true rfl) rfl rfl 17 rfl ?_
    refine g_lv [some (.long p0), none, some (.long p1), none, some (.long (-p0)), none, some (.long p1), none, none, none] (lvLe.sm (lvLe.nn (lvLe.sm (lvLe.nn (lvLe.sm (lvLe.nn (lvLe.sm (lvLe.nn (lvLe.nn (lvLe.nn lvLe.nil)))))))))) ?_
    obtain ⟨v2, hv2, hR⟩ := opt_b hR
    refine k_X4_divisor_L17 l g C N_ p0 p1 N_ (-p0) p1 _ hv2 ?_
    refine g_lload C dX4_divisor_42 rfl 44 rfl ?_
    obtain rfl := Option.some.inj hR
    exact g_lret C hr hlocks hA (by first | (dsimp only; done) | rfl) (by first | (dsimp only; done) | rfl) dX4_divisor_44
theorem hd_X4_partOf : yX4_partOf.cls = RX4 ∧ yX4_partOf.cls ≠ "java/lang/invoke/MethodHandle" ∧ yX4_partOf.cls ≠ "java/lang/invoke/VarHandle" ∧ (parseMethodDescriptor yX4_partOf.desc).map (fun d => d.parameters.length) = some 3 := by decide +kernel
def f_X4_partOf (p0 : Int64) (p1 : Int64) (p2 : Int32) (N_ : Nat) : Option (Int64) :=
  if (lg_cmp p1 0) = 0 then
    some (Int32.toInt64 p2)
  else
    if p2 = 0 then
      (f_X4_divisor p0 p1 N_).bind fun v2 =>
      if v2 = 0 then none else
      some (p0 / v2)
    else
      (f_X4_divisor p0 p1 N_).bind fun v1 =>
      if v1 = 0 then none else
      some (p1 / v1)
set_option maxRecDepth 100000 in
set_option maxHeartbeats 4000000 in
theorem k_X4_partOf (l : Launch) (g : gE) (p0 : Int64) (p1 : Int64) (p2 : Int32) (N_ : Nat) (R_ : Int64) (hR : f_X4_partOf p0 p1 p2 N_ = some R_) : FnL l g yX4_partOf wA_X4_partOf { frames := 1, cells := 0, slots := 0, locals := 29 } [.long p0, .long p1, .int p2] ([]) R_ ([]) := by
  refine fEntry (As := [.long p0, .long p1, .int p2]) (maxL := 5) (ret := (some .long)) (by decide) rfl [some (.long p0), none, some (.long p1), none, some (.int p2)] (Nat.le_of_ble_eq_true rfl) (lvInB.to (lvInB.sm (lvInB.nn (lvInB.sm (lvInB.nn (lvInB.sm lvInB.nil)))))) ?_
  intro p e s m below meth c A C hr hlocks hname hA
  have C : Cx p s m _ c g A cX4_partOf 5 wA_X4_partOf RX4 := C
  rw [f_X4_partOf] at hR
  refine g_lload_n C dX4_partOf_0 rfl 1 rfl ?_
  refine g_lconst C dX4_partOf_1 0 (by decide) 2 rfl ?_
  refine g_lcmp C dX4_partOf_2 3 rfl ?_
  refine g_if_ne C dX4_partOf_3 hR 10 6 (by decide) rfl (fun c_3 hR => ?_) (fun c_3 hR => ?_)
  · refine g_iload C dX4_partOf_10 rfl 12 rfl ?_
    refine g_if_ne C dX4_partOf_12 hR 19 15 (by decide) rfl (fun c_12 hR => ?_) (fun c_12 hR => ?_)
    · refine g_lload_n C dX4_partOf_19 rfl 20 rfl ?_
      refine g_lload_n C dX4_partOf_20 rfl 21 rfl ?_
      refine g_lload_n C dX4_partOf_21 rfl 22 rfl ?_
      obtain ⟨v1, hv1, hR⟩ := opt_b hR
      refine g_callLR C (rn_S C (k_X4_divisor l g p0 p1 N_ v1 hv1) (va_cwS 2 C.1.2.2.2.2 (gdS wl_498 wl_496 wl_497 wl_5) rfl rfl rfl hd_X4_divisor.2 ⟨Nat.le_of_ble_eq_true rfl, Nat.le_of_ble_eq_true rfl⟩) [] rfl rfl rfl rfl (Nat.le_of_ble_eq_true rfl) ⟨Nat.zero_le _, Nat.zero_le _⟩ dX4_partOf_22) 25 rfl ?_
      obtain ⟨h_25, hR⟩ := opt_n hR
      refine g_ldiv C dX4_partOf_25 h_25 26 rfl ?_
      obtain rfl := Option.some.inj hR
      exact g_lret C hr hlocks hA (by first | (dsimp only; done) | rfl) (by first | (dsimp only; done) | rfl) dX4_partOf_26
    · refine g_lload_n C dX4_partOf_15 rfl 16 rfl ?_
      refine g_goto C dX4_partOf_16 20 (by decide) ?_
      refine g_lload_n C dX4_partOf_20 rfl 21 rfl ?_
      refine g_lload_n C dX4_partOf_21 rfl 22 rfl ?_
      obtain ⟨v2, hv2, hR⟩ := opt_b hR
      refine g_callLR C (rn_S C (k_X4_divisor l g p0 p1 N_ v2 hv2) (va_cwS 2 C.1.2.2.2.2 (gdS wl_498 wl_496 wl_497 wl_5) rfl rfl rfl hd_X4_divisor.2 ⟨Nat.le_of_ble_eq_true rfl, Nat.le_of_ble_eq_true rfl⟩) [] rfl rfl rfl rfl (Nat.le_of_ble_eq_true rfl) ⟨Nat.zero_le _, Nat.zero_le _⟩ dX4_partOf_22) 25 rfl ?_
      obtain ⟨h_25, hR⟩ := opt_n hR
      refine g_ldiv C dX4_partOf_25 h_25 26 rfl ?_
      obtain rfl := Option.some.inj hR
      exact g_lret C hr hlocks hA (by first | (dsimp only; done) | rfl) (by first | (dsimp only; done) | rfl) dX4_partOf_26
  · refine g_iload C dX4_partOf_6 rfl 8 rfl ?_
    refine g_i2l C dX4_partOf_8 9 rfl ?_
    obtain rfl := Option.some.inj hR
    exact g_lret C hr hlocks hA (by first | (dsimp only; done) | rfl) (by first | (dsimp only; done) | rfl) dX4_partOf_9
theorem hd_X4_no : yX4_no.cls = RX4 ∧ yX4_no.cls ≠ "java/lang/invoke/MethodHandle" ∧ yX4_no.cls ≠ "java/lang/invoke/VarHandle" ∧ (parseMethodDescriptor yX4_no.desc).map (fun d => d.parameters.length) = some 1 := by decide +kernel
def f_X4_no (S : (Nat → Nat → Int32) × (Nat → Nat → Int64)) (p0 : Int32) (N_ : Nat) : Option (Int32 × ((Nat → Nat → Int32) × (Nat → Nat → Int64))) :=
  if (-p0) < 0 ∨ 7 ≤ (Int32.toNatClampNeg (-p0)) then none else
  if (-p0) < 0 ∨ 7 ≤ (Int32.toNatClampNeg (-p0)) then none else
  some (p0, ((kS S.1 1 (upd (S.1 1) (Int32.toNatClampNeg (-p0)) (((S.1 1) (Int32.toNatClampNeg (-p0))) + 1))), S.2))
set_option maxRecDepth 100000 in
set_option maxHeartbeats 4000000 in
theorem k_X4_no (l : Launch) (g : gE) (b : Nat → Nat) (S : (Nat → Nat → Int32) × (Nat → Nat → Int64)) (p0 : Int32) (N_ : Nat) (R_ : Int32 × ((Nat → Nat → Int32) × (Nat → Nat → Int64))) (hR : f_X4_no S p0 N_ = some R_) : FnI l g yX4_no wA_X4_no { frames := 0, cells := 0, slots := 0, locals := 0 } [.ref (b 0), .int p0] (wM g b S) R_.1 (wM g b R_.2) := by
  refine fEntry (As := [.ref (b 0), .int p0]) (maxL := 2) (ret := (some .int)) (by decide) rfl [some (.ref (b 0)), some (.int p0)] (Nat.le_of_ble_eq_true rfl) (lvInB.to (lvInB.sm (lvInB.sm lvInB.nil))) ?_
  intro p e s m below meth c A C hr hlocks hname hA
  have C : Cx p s m _ c g A cX4_no 2 wA_X4_no RX4 := C
  rw [f_X4_no] at hR
  refine g_aload_n C dX4_no_0 rfl 1 rfl ?_
  refine g_get (v := .ref (b 1)) C (hiC hiA_4) 0 rfl rfl 0 (by decide) (List.mem_cons_of_mem _ wl_66) rfl rfl dX4_no_1 4 rfl ?_
  refine g_iload_n C dX4_no_4 rfl 5 rfl ?_
  refine g_ineg C dX4_no_5 6 rfl ?_
  refine g_dup2 C dX4_no_6 rfl rfl 7 rfl ?_
  obtain ⟨h_7, hR⟩ := opt_n hR
  refine g_iald (f := (S.1 1)) C 1 rfl h_7 dX4_no_7 8 rfl ?_
  refine g_iconst C dX4_no_8 1 ic_1 9 rfl ?_
  refine g_iadd C dX4_no_9 10 rfl ?_
  obtain ⟨h_10, hR⟩ := opt_n hR
  refine g_iast (f := (S.1 1)) C 1 rfl h_10 dX4_no_10 (wMr g b (S.1 0 0) (S.1 0 1) (S.1 0 2) (S.1 0 3) (S.1 0 4) (S.1 0 5) (S.1 0 6) (S.1 0 7) (S.1 0 8) (S.1 0 9) (S.1 0 10) (S.1 0 11) (S.1 0 12) (S.1 0 13) (S.1 0 14) (upd (S.1 1) (Int32.toNatClampNeg (-p0)) (((S.1 1) (Int32.toNatClampNeg (-p0))) + 1)) (S.1 2) (S.1 3) (S.1 4) (S.1 5) (S.1 6) (S.1 7) (S.1 8) (S.1 9) (S.1 10) (S.1 11) (S.1 12) (S.1 13) (S.1 14) (S.1 15) (S.1 16) (S.2 0) (S.2 1) (S.2 2)) rfl 11 rfl ?_
  refine g_iload_n C dX4_no_11 rfl 12 rfl ?_
  obtain rfl := Option.some.inj hR
  exact g_iret C hr hlocks hA (by first | (dsimp only; done) | rfl) (by first | (dsimp only; done) | rfl) dX4_no_12
theorem hd_X4_lower : yX4_lower.cls = RX4 ∧ yX4_lower.cls ≠ "java/lang/invoke/MethodHandle" ∧ yX4_lower.cls ≠ "java/lang/invoke/VarHandle" ∧ (parseMethodDescriptor yX4_lower.desc).map (fun d => d.parameters.length) = some 1 := by decide +kernel
def f_X4_lower (S : (Nat → Nat → Int32) × (Nat → Nat → Int64)) (p0 : Int32) (N_ : Nat) : Option (Int32 × ((Nat → Nat → Int32) × (Nat → Nat → Int64))) :=
  if (-p0) < 0 ∨ 7 ≤ (Int32.toNatClampNeg (-p0)) then none else
  if (-p0) < 0 ∨ 7 ≤ (Int32.toNatClampNeg (-p0)) then none else
  some ((1000000000 - p0), ((kS S.1 1 (upd (S.1 1) (Int32.toNatClampNeg (-p0)) (((S.1 1) (Int32.toNatClampNeg (-p0))) + 1))), S.2))
set_option maxRecDepth 100000 in
set_option maxHeartbeats 4000000 in
theorem k_X4_lower (l : Launch) (g : gE) (b : Nat → Nat) (S : (Nat → Nat → Int32) × (Nat → Nat → Int64)) (p0 : Int32) (N_ : Nat) (R_ : Int32 × ((Nat → Nat → Int32) × (Nat → Nat → Int64))) (hR : f_X4_lower S p0 N_ = some R_) : FnI l g yX4_lower wA_X4_lower { frames := 0, cells := 0, slots := 0, locals := 0 } [.ref (b 0), .int p0] (wM g b S) R_.1 (wM g b R_.2) := by
  refine fEntry (As := [.ref (b 0), .int p0]) (maxL := 2) (ret := (some .int)) (by decide) rfl [some (.ref (b 0)), some (.int p0)] (Nat.le_of_ble_eq_true rfl) (lvInB.to (lvInB.sm (lvInB.sm lvInB.nil))) ?_
  intro p e s m below meth c A C hr hlocks hname hA
  have C : Cx p s m _ c g A cX4_lower 2 wA_X4_lower RX4 := C
  rw [f_X4_lower] at hR
  refine g_aload_n C dX4_lower_0 rfl 1 rfl ?_
  refine g_get (v := .ref (b 1)) C (hiC hiA_4) 0 rfl rfl 0 (by decide) (List.mem_cons_of_mem _ wl_66) rfl rfl dX4_lower_1 4 rfl ?_
  refine g_iload_n C dX4_lower_4 rfl 5 rfl ?_
  refine g_ineg C dX4_lower_5 6 rfl ?_
  refine g_dup2 C dX4_lower_6 rfl rfl 7 rfl ?_
  obtain ⟨h_7, hR⟩ := opt_n hR
  refine g_iald (f := (S.1 1)) C 1 rfl h_7 dX4_lower_7 8 rfl ?_
  refine g_iconst C dX4_lower_8 1 ic_1 9 rfl ?_
  refine g_iadd C dX4_lower_9 10 rfl ?_
  obtain ⟨h_10, hR⟩ := opt_n hR
  refine g_iast (f := (S.1 1)) C 1 rfl h_10 dX4_lower_10 (wMr g b (S.1 0 0) (S.1 0 1) (S.1 0 2) (S.1 0 3) (S.1 0 4) (S.1 0 5) (S.1 0 6) (S.1 0 7) (S.1 0 8) (S.1 0 9) (S.1 0 10) (S.1 0 11) (S.1 0 12) (S.1 0 13) (S.1 0 14) (upd (S.1 1) (Int32.toNatClampNeg (-p0)) (((S.1 1) (Int32.toNatClampNeg (-p0))) + 1)) (S.1 2) (S.1 3) (S.1 4) (S.1 5) (S.1 6) (S.1 7) (S.1 8) (S.1 9) (S.1 10) (S.1 11) (S.1 12) (S.1 13) (S.1 14) (S.1 15) (S.1 16) (S.2 0) (S.2 1) (S.2 2)) rfl 11 rfl ?_
  refine g_ldc C dX4_lower_11 (C.1.2.2.2.2 _ (List.mem_cons_of_mem _ wl_853)) 13 rfl ?_
  refine g_iload_n C dX4_lower_13 rfl 14 rfl ?_
  refine g_isub C dX4_lower_14 15 rfl ?_
  obtain rfl := Option.some.inj hR
  exact g_iret C hr hlocks hA (by first | (dsimp only; done) | rfl) (by first | (dsimp only; done) | rfl) dX4_lower_15
theorem hd_X4_lowest : yX4_lowest.cls = RX4 ∧ yX4_lowest.cls ≠ "java/lang/invoke/MethodHandle" ∧ yX4_lowest.cls ≠ "java/lang/invoke/VarHandle" ∧ (parseMethodDescriptor yX4_lowest.desc).map (fun d => d.parameters.length) = some 1 := by decide +kernel
def f_X4_lowest (S : (Nat → Nat → Int32) × (Nat → Nat → Int64)) (p0 : Int32) (N_ : Nat) : Option (Int64 × ((Nat → Nat → Int32) × (Nat → Nat → Int64))) :=
  if (-p0) < 0 ∨ 7 ≤ (Int32.toNatClampNeg (-p0)) then none else
  if (-p0) < 0 ∨ 7 ≤ (Int32.toNatClampNeg (-p0)) then none else
  some ((4000000000000000000 - (Int32.toInt64 p0)), ((kS S.1 1 (upd (S.1 1) (Int32.toNatClampNeg (-p0)) (((S.1 1) (Int32.toNatClampNeg (-p0))) + 1))), S.2))
set_option maxRecDepth 100000 in
set_option maxHeartbeats 4000000 in
theorem k_X4_lowest (l : Launch) (g : gE) (b : Nat → Nat) (S : (Nat → Nat → Int32) × (Nat → Nat → Int64)) (p0 : Int32) (N_ : Nat) (R_ : Int64 × ((Nat → Nat → Int32) × (Nat → Nat → Int64))) (hR : f_X4_lowest S p0 N_ = some R_) : FnL l g yX4_lowest wA_X4_lowest { frames := 0, cells := 0, slots := 0, locals := 0 } [.ref (b 0), .int p0] (wM g b S) R_.1 (wM g b R_.2) := by
  refine fEntry (As := [.ref (b 0), .int p0]) (maxL := 2) (ret := (some .long)) (by decide) rfl [some (.ref (b 0)), some (.int p0)] (Nat.le_of_ble_eq_true rfl) (lvInB.to (lvInB.sm (lvInB.sm lvInB.nil))) ?_
  intro p e s m below meth c A C hr hlocks hname hA
  have C : Cx p s m _ c g A cX4_lowest 2 wA_X4_lowest RX4 := C
  rw [f_X4_lowest] at hR
  refine g_aload_n C dX4_lowest_0 rfl 1 rfl ?_
  refine g_get (v := .ref (b 1)) C (hiC hiA_4) 0 rfl rfl 0 (by decide) (List.mem_cons_of_mem _ wl_66) rfl rfl dX4_lowest_1 4 rfl ?_
  refine g_iload_n C dX4_lowest_4 rfl 5 rfl ?_
  refine g_ineg C dX4_lowest_5 6 rfl ?_
  refine g_dup2 C dX4_lowest_6 rfl rfl 7 rfl ?_
  obtain ⟨h_7, hR⟩ := opt_n hR
  refine g_iald (f := (S.1 1)) C 1 rfl h_7 dX4_lowest_7 8 rfl ?_
  refine g_iconst C dX4_lowest_8 1 ic_1 9 rfl ?_
  refine g_iadd C dX4_lowest_9 10 rfl ?_
  obtain ⟨h_10, hR⟩ := opt_n hR
  refine g_iast (f := (S.1 1)) C 1 rfl h_10 dX4_lowest_10 (wMr g b (S.1 0 0) (S.1 0 1) (S.1 0 2) (S.1 0 3) (S.1 0 4) (S.1 0 5) (S.1 0 6) (S.1 0 7) (S.1 0 8) (S.1 0 9) (S.1 0 10) (S.1 0 11) (S.1 0 12) (S.1 0 13) (S.1 0 14) (upd (S.1 1) (Int32.toNatClampNeg (-p0)) (((S.1 1) (Int32.toNatClampNeg (-p0))) + 1)) (S.1 2) (S.1 3) (S.1 4) (S.1 5) (S.1 6) (S.1 7) (S.1 8) (S.1 9) (S.1 10) (S.1 11) (S.1 12) (S.1 13) (S.1 14) (S.1 15) (S.1 16) (S.2 0) (S.2 1) (S.2 2)) rfl 11 rfl ?_
  refine g_ldc2 C dX4_lowest_11 (C.1.2.2.2.2 _ (List.mem_cons_of_mem _ wl_463)) 14 rfl ?_
  refine g_iload_n C dX4_lowest_14 rfl 15 rfl ?_
  refine g_i2l C dX4_lowest_15 16 rfl ?_
  refine g_lsub C dX4_lowest_16 17 rfl ?_
  obtain rfl := Option.some.inj hR
  exact g_lret C hr hlocks hA (by first | (dsimp only; done) | rfl) (by first | (dsimp only; done) | rfl) dX4_lowest_17
theorem hd_X4_isJug : yX4_isJug.cls = RX4 ∧ yX4_isJug.cls ≠ "java/lang/invoke/MethodHandle" ∧ yX4_isJug.cls ≠ "java/lang/invoke/VarHandle" ∧ (parseMethodDescriptor yX4_isJug.desc).map (fun d => d.parameters.length) = some 1 := by decide +kernel
def f_X4_isJug (S : (Nat → Nat → Int32) × (Nat → Nat → Int64)) (p0 : Int32) : Bool :=
  if p0 < 0 then
    false
  else
    if (S.1 0 0) ≤ p0 then
      false
    else
      true
set_option maxRecDepth 100000 in
set_option maxHeartbeats 4000000 in
theorem k_X4_isJug (l : Launch) (g : gE) (b : Nat → Nat) (S : (Nat → Nat → Int32) × (Nat → Nat → Int64)) (p0 : Int32) : FnI l g yX4_isJug wA_X4_isJug { frames := 0, cells := 0, slots := 0, locals := 0 } [.ref (b 0), .int p0] (wM g b S) (b2i (f_X4_isJug S p0)) (wM g b S) := by
  generalize hR : f_X4_isJug S p0 = R_
  refine fEntry (As := [.ref (b 0), .int p0]) (maxL := 2) (ret := (some .boolean)) (by decide) rfl [some (.ref (b 0)), some (.int p0)] (Nat.le_of_ble_eq_true rfl) (lvInB.to (lvInB.sm (lvInB.sm lvInB.nil))) ?_
  intro p e s m below meth c A C hr hlocks hname hA
  have C : Cx p s m _ c g A cX4_isJug 2 wA_X4_isJug RX4 := C
  rw [f_X4_isJug] at hR
  refine g_iload_n C dX4_isJug_0 rfl 1 rfl ?_
  refine g_if_lt C dX4_isJug_1 hR 16 4 (by decide) rfl (fun c_1 hR => ?_) (fun c_1 hR => ?_)
  · refine g_iconst C dX4_isJug_16 0 ic_0 17 rfl ?_
    subst hR
    exact g_zret C hr hlocks (by decide) hA rfl (by first | (dsimp only; done) | rfl) dX4_isJug_17
  · refine g_iload_n C dX4_isJug_4 rfl 5 rfl ?_
    refine g_aload_n C dX4_isJug_5 rfl 6 rfl ?_
    refine g_get (v := .int (S.1 0 0)) C (hiC hiA_4) 0 rfl rfl 9 (by decide) (List.mem_cons_of_mem _ wl_239) rfl rfl dX4_isJug_6 9 rfl ?_
    refine g_icmp_ge C dX4_isJug_9 hR 16 12 (by decide) rfl (fun c_9 hR => ?_) (fun c_9 hR => ?_)
    · refine g_iconst C dX4_isJug_16 0 ic_0 17 rfl ?_
      subst hR
      exact g_zret C hr hlocks (by decide) hA rfl (by first | (dsimp only; done) | rfl) dX4_isJug_17
    · refine g_iconst C dX4_isJug_12 1 ic_1 13 rfl ?_
      refine g_goto C dX4_isJug_13 17 (by decide) ?_
      subst hR
      exact g_zret C hr hlocks (by decide) hA rfl (by first | (dsimp only; done) | rfl) dX4_isJug_17
theorem hd_X4_feed : yX4_feed.cls = RX4 ∧ yX4_feed.cls ≠ "java/lang/invoke/MethodHandle" ∧ yX4_feed.cls ≠ "java/lang/invoke/VarHandle" ∧ (parseMethodDescriptor yX4_feed.desc).map (fun d => d.parameters.length) = some 1 := by decide +kernel
def f_X4_feed (S : (Nat → Nat → Int32) × (Nat → Nat → Int64)) (p0 : Int32) (N_ : Nat) : Option (Int32 × ((Nat → Nat → Int32) × (Nat → Nat → Int64))) :=
  if (f_X4_bound p0 0 255) = 0 then
    if (S.1 0 5) = 96 then
      (f_X4_no S (-6) N_).bind fun v2 =>
      some (v2.1, v2.2)
    else
      if (S.1 0 5) < 0 ∨ 96 ≤ (Int32.toNatClampNeg (S.1 0 5)) then none else
      some (((S.1 0 5) + 1), ((kS (kS S.1 0 (upd (S.1 0) 5 ((S.1 0 5) + 1))) 10 (upd (S.1 10) (Int32.toNatClampNeg (S.1 0 5)) p0)), S.2))
  else
    (f_X4_no S (f_X4_bound p0 0 255) N_).bind fun v1 =>
    some (v1.1, v1.2)
set_option maxRecDepth 100000 in
set_option maxHeartbeats 4000000 in
theorem k_X4_feed (l : Launch) (g : gE) (b : Nat → Nat) (S : (Nat → Nat → Int32) × (Nat → Nat → Int64)) (p0 : Int32) (N_ : Nat) (R_ : Int32 × ((Nat → Nat → Int32) × (Nat → Nat → Int64))) (hR : f_X4_feed S p0 N_ = some R_) : FnI l g yX4_feed wA_X4_feed { frames := 1, cells := 0, slots := 0, locals := 22 } [.ref (b 0), .int p0] (wM g b S) R_.1 (wM g b R_.2) := by
  refine fEntry (As := [.ref (b 0), .int p0]) (maxL := 3) (ret := (some .int)) (by decide) rfl [some (.ref (b 0)), some (.int p0), none] (Nat.le_of_ble_eq_true rfl) (lvInB.to (lvInB.sm (lvInB.sm (lvInB.nn lvInB.nil)))) ?_
  intro p e s m below meth c A C hr hlocks hname hA
  have C : Cx p s m _ c g A cX4_feed 3 wA_X4_feed RX4 := C
  rw [f_X4_feed] at hR
  refine g_iload_n C dX4_feed_0 rfl 1 rfl ?_
  refine g_iconst C dX4_feed_1 0 ic_0 2 rfl ?_
  refine g_sipush C dX4_feed_2 255 sp_255 5 rfl ?_
  refine g_callIR C (rn_S C (k_X4_bound l g p0 0 255) (va_cwS 3 C.1.2.2.2.2 (gdS wl_107 wl_105 wl_106 wl_5) rfl rfl rfl hd_X4_bound.2 ⟨Nat.le_of_ble_eq_true rfl, Nat.le_of_ble_eq_true rfl⟩) [] rfl rfl rfl rfl (Nat.le_of_ble_eq_true rfl) ⟨Nat.zero_le _, Nat.zero_le _⟩ dX4_feed_5) 8 rfl ?_
  refine g_istore_n C dX4_feed_8 [_, _, _] (Nat.le_of_ble_eq_true rfl) rfl rfl 9 rfl ?_
  refine g_iload_n C dX4_feed_9 rfl 10 rfl ?_
  refine g_if_ne C dX4_feed_10 hR 25 13 (by decide) rfl (fun c_10 hR => ?_) (fun c_10 hR => ?_)
  · refine g_iload_n C dX4_feed_25 rfl 26 rfl ?_
    refine g_if_eqF C dX4_feed_26 c_10 35 29 (by decide) rfl ?_
    refine g_aload_n C dX4_feed_29 rfl 30 rfl ?_
    refine g_iload_n C dX4_feed_30 rfl 31 rfl ?_
    obtain ⟨v1, hv1, hR⟩ := opt_b hR
    refine g_callI C (rn_V C (k_X4_no l g b S (f_X4_bound p0 0 255) N_ v1 hv1) (cwV 1 C.1.2.2.2.2 (gdV wl_111 wl_108 wl_109 wl_110 wl_5) rfl rfl rfl hd_X4_no ⟨Nat.le_of_ble_eq_true rfl, Nat.le_of_ble_eq_true rfl⟩) 0 rfl rfl _ rg_C rg_n rfl rfl (Nat.le_of_ble_eq_true rfl) ⟨Nat.zero_le _, Nat.zero_le _⟩ dX4_feed_31) (wM g b v1.2) (rg_put (wM_len.trans wM_len.symm)) (rg_len (wM_len.trans wM_len.symm)) 34 rfl ?_
    obtain rfl := Option.some.inj hR
    exact g_iret C hr hlocks hA (by first | (dsimp only; done) | rfl) (by first | (dsimp only; done) | rfl) dX4_feed_34
  · refine g_aload_n C dX4_feed_13 rfl 14 rfl ?_
    refine g_get (v := .int (S.1 0 5)) C (hiC hiA_4) 0 rfl rfl 18 (by decide) (List.mem_cons_of_mem _ wl_104) rfl rfl dX4_feed_14 17 rfl ?_
    refine g_bipush C dX4_feed_17 96 bp_96 19 rfl ?_
    refine g_icmp_ne C dX4_feed_19 hR 25 22 (by decide) rfl (fun c_19 hR => ?_) (fun c_19 hR => ?_)
    · refine g_iload_n C dX4_feed_25 rfl 26 rfl ?_
      refine g_if_eqT C dX4_feed_26 c_10 35 (by decide) ?_
      refine g_aload_n C dX4_feed_35 rfl 36 rfl ?_
      refine g_get (v := .ref (b 10)) C (hiC hiA_4) 0 rfl rfl 14 (by decide) (List.mem_cons_of_mem _ wl_75) rfl rfl dX4_feed_36 39 rfl ?_
      refine g_aload_n C dX4_feed_39 rfl 40 rfl ?_
      refine g_get (v := .int (S.1 0 5)) C (hiC hiA_4) 0 rfl rfl 18 (by decide) (List.mem_cons_of_mem _ wl_104) rfl rfl dX4_feed_40 43 rfl ?_
      refine g_iload_n C dX4_feed_43 rfl 44 rfl ?_
      obtain ⟨h_44, hR⟩ := opt_n hR
      refine g_iast (f := (S.1 10)) C 10 rfl h_44 dX4_feed_44 (wMr g b (S.1 0 0) (S.1 0 1) (S.1 0 2) (S.1 0 3) (S.1 0 4) (S.1 0 5) (S.1 0 6) (S.1 0 7) (S.1 0 8) (S.1 0 9) (S.1 0 10) (S.1 0 11) (S.1 0 12) (S.1 0 13) (S.1 0 14) (S.1 1) (S.1 2) (S.1 3) (S.1 4) (S.1 5) (S.1 6) (S.1 7) (S.1 8) (S.1 9) (upd (S.1 10) (Int32.toNatClampNeg (S.1 0 5)) p0) (S.1 11) (S.1 12) (S.1 13) (S.1 14) (S.1 15) (S.1 16) (S.2 0) (S.2 1) (S.2 2)) rfl 45 rfl ?_
      refine g_aload_n C dX4_feed_45 rfl 46 rfl ?_
      refine g_dup C dX4_feed_46 rfl 47 rfl ?_
      refine g_get (v := .int (S.1 0 5)) C (hiC hiA_4) 0 rfl rfl 18 (by decide) (List.mem_cons_of_mem _ wl_104) rfl rfl dX4_feed_47 50 rfl ?_
      refine g_iconst C dX4_feed_50 1 ic_1 51 rfl ?_
      refine g_iadd C dX4_feed_51 52 rfl ?_
      refine g_put C (hiC hiA_4) tyX4 tyX4_ok nmX4 0 rfl rfl 18 (by decide) (List.mem_cons_of_mem _ wl_104) rfl rfl rfl rfl (Nat.le_of_ble_eq_true rfl) dX4_feed_52 (wMr g b (S.1 0 0) (S.1 0 1) (S.1 0 2) (S.1 0 3) (S.1 0 4) ((S.1 0 5) + 1) (S.1 0 6) (S.1 0 7) (S.1 0 8) (S.1 0 9) (S.1 0 10) (S.1 0 11) (S.1 0 12) (S.1 0 13) (S.1 0 14) (S.1 1) (S.1 2) (S.1 3) (S.1 4) (S.1 5) (S.1 6) (S.1 7) (S.1 8) (S.1 9) (upd (S.1 10) (Int32.toNatClampNeg (S.1 0 5)) p0) (S.1 11) (S.1 12) (S.1 13) (S.1 14) (S.1 15) (S.1 16) (S.2 0) (S.2 1) (S.2 2)) rfl 55 rfl ?_
      refine g_aload_n C dX4_feed_55 rfl 56 rfl ?_
      refine g_get (v := .int ((S.1 0 5) + 1)) C (hiC hiA_4) 0 rfl rfl 18 (by decide) (List.mem_cons_of_mem _ wl_104) rfl rfl dX4_feed_56 59 rfl ?_
      obtain rfl := Option.some.inj hR
      exact g_iret C hr hlocks hA (by first | (dsimp only; done) | rfl) (by first | (dsimp only; done) | rfl) dX4_feed_59
    · refine g_bipush C dX4_feed_22 (-6) bp_m6 24 rfl ?_
      refine g_istore_n C dX4_feed_24 [_, _, _] (Nat.le_of_ble_eq_true rfl) rfl rfl 25 rfl ?_
      refine g_iload_n C dX4_feed_25 rfl 26 rfl ?_
      refine g_if_eqF C dX4_feed_26 (by decide) 35 29 (by decide) rfl ?_
      refine g_aload_n C dX4_feed_29 rfl 30 rfl ?_
      refine g_iload_n C dX4_feed_30 rfl 31 rfl ?_
      obtain ⟨v2, hv2, hR⟩ := opt_b hR
      refine g_callI C (rn_V C (k_X4_no l g b S (-6) N_ v2 hv2) (cwV 1 C.1.2.2.2.2 (gdV wl_111 wl_108 wl_109 wl_110 wl_5) rfl rfl rfl hd_X4_no ⟨Nat.le_of_ble_eq_true rfl, Nat.le_of_ble_eq_true rfl⟩) 0 rfl rfl _ rg_C rg_n rfl rfl (Nat.le_of_ble_eq_true rfl) ⟨Nat.zero_le _, Nat.zero_le _⟩ dX4_feed_31) (wM g b v2.2) (rg_put (wM_len.trans wM_len.symm)) (rg_len (wM_len.trans wM_len.symm)) 34 rfl ?_
      obtain rfl := Option.some.inj hR
      exact g_iret C hr hlocks hA (by first | (dsimp only; done) | rfl) (by first | (dsimp only; done) | rfl) dX4_feed_34
theorem hd_X4_next : yX4_next.cls = RX4 ∧ yX4_next.cls ≠ "java/lang/invoke/MethodHandle" ∧ yX4_next.cls ≠ "java/lang/invoke/VarHandle" ∧ (parseMethodDescriptor yX4_next.desc).map (fun d => d.parameters.length) = some 0 := by decide +kernel
def f_X4_next (S : (Nat → Nat → Int32) × (Nat → Nat → Int64)) (N_ : Nat) : Option (Int32) :=
  if (S.1 0 5) ≤ (S.1 0 6) then
    some (-1)
  else
    if (S.1 0 6) < 0 ∨ 96 ≤ (Int32.toNatClampNeg (S.1 0 6)) then none else
    some ((S.1 10) (Int32.toNatClampNeg (S.1 0 6)))
set_option maxRecDepth 100000 in
set_option maxHeartbeats 4000000 in
theorem k_X4_next (l : Launch) (g : gE) (b : Nat → Nat) (S : (Nat → Nat → Int32) × (Nat → Nat → Int64)) (N_ : Nat) (R_ : Int32) (hR : f_X4_next S N_ = some R_) : FnI l g yX4_next wA_X4_next { frames := 0, cells := 0, slots := 0, locals := 0 } [.ref (b 0)] (wM g b S) R_ (wM g b S) := by
  refine fEntry (As := [.ref (b 0)]) (maxL := 1) (ret := (some .int)) (by decide) rfl [some (.ref (b 0))] (Nat.le_of_ble_eq_true rfl) (lvInB.to (lvInB.sm lvInB.nil)) ?_
  intro p e s m below meth c A C hr hlocks hname hA
  have C : Cx p s m _ c g A cX4_next 1 wA_X4_next RX4 := C
  rw [f_X4_next] at hR
  refine g_aload_n C dX4_next_0 rfl 1 rfl ?_
  refine g_get (v := .int (S.1 0 6)) C (hiC hiA_4) 0 rfl rfl 19 (by decide) (List.mem_cons_of_mem _ wl_212) rfl rfl dX4_next_1 4 rfl ?_
  refine g_aload_n C dX4_next_4 rfl 5 rfl ?_
  refine g_get (v := .int (S.1 0 5)) C (hiC hiA_4) 0 rfl rfl 18 (by decide) (List.mem_cons_of_mem _ wl_104) rfl rfl dX4_next_5 8 rfl ?_
  refine g_icmp_ge C dX4_next_8 hR 23 11 (by decide) rfl (fun c_8 hR => ?_) (fun c_8 hR => ?_)
  · refine g_iconst C dX4_next_23 (-1) ic_m1 24 rfl ?_
    obtain rfl := Option.some.inj hR
    exact g_iret C hr hlocks hA (by first | (dsimp only; done) | rfl) (by first | (dsimp only; done) | rfl) dX4_next_24
  · refine g_aload_n C dX4_next_11 rfl 12 rfl ?_
    refine g_get (v := .ref (b 10)) C (hiC hiA_4) 0 rfl rfl 14 (by decide) (List.mem_cons_of_mem _ wl_75) rfl rfl dX4_next_12 15 rfl ?_
    refine g_aload_n C dX4_next_15 rfl 16 rfl ?_
    refine g_get (v := .int (S.1 0 6)) C (hiC hiA_4) 0 rfl rfl 19 (by decide) (List.mem_cons_of_mem _ wl_212) rfl rfl dX4_next_16 19 rfl ?_
    obtain ⟨h_19, hR⟩ := opt_n hR
    refine g_iald (f := (S.1 10)) C 10 rfl h_19 dX4_next_19 20 rfl ?_
    refine g_goto C dX4_next_20 24 (by decide) ?_
    obtain rfl := Option.some.inj hR
    exact g_iret C hr hlocks hA (by first | (dsimp only; done) | rfl) (by first | (dsimp only; done) | rfl) dX4_next_24
theorem hd_X4_readsDigits : yX4_readsDigits.cls = RX4 ∧ yX4_readsDigits.cls ≠ "java/lang/invoke/MethodHandle" ∧ yX4_readsDigits.cls ≠ "java/lang/invoke/VarHandle" ∧ (parseMethodDescriptor yX4_readsDigits.desc).map (fun d => d.parameters.length) = some 2 := by decide +kernel
def f_X4_readsDigits_L5 (x2 : Int32) (N_ : Nat) : Nat → Int32 → Int32 → ((Nat → Nat → Int32) × (Nat → Nat → Int64)) → Option ((Bool × ((Nat → Nat → Int32) × (Nat → Nat → Int64))) ⊕ (Int32 × Int32 × ((Nat → Nat → Int32) × (Nat → Nat → Int64))))
  | 0, _, _, _ => none
  | n_ + 1, x3, x4, S =>
    if x2 ≤ x4 then
      some (.inr (x3, x4, S))
    else
      (f_X4_next S N_).bind fun v5 =>
      if (b2i (f_X4_isIn v5 48 57)) = 0 then
        some (.inl (false, S))
      else
        (f_X4_next S N_).bind fun v6 =>
        f_X4_readsDigits_L5 x2 N_ n_ (((10 * x3) + v6) - 48) (x4 + 1) ((kS S.1 0 (upd (S.1 0) 6 ((S.1 0 6) + 1))), S.2)
set_option maxRecDepth 100000 in
set_option maxHeartbeats 4000000 in
theorem k_X4_readsDigits_L5 (l : Launch) (g : gE) {p : Program} {e : Env} {s : State} {m : MethodId} {args : Array Value} {below : List Frame} {meth : Method} {c : Code} {Q : State → Prop} {A : Nat → Prop} {wc0 : va_W} {b : Nat → Nat}  (C : Cx p s m args c g A cX4_readsDigits 5 wA_X4_readsDigits RX4) (hr : meth.sig.returnType = some .boolean) (hlocks : meth.locks = false) (hA : va_A wc0 s.heap.size = A) (N_ : Nat) (x1 : Int32) (x2 : Int32) : ∀ (n_ : Nat) (x3 : Int32) (x4 : Int32) (S : (Nat → Nat → Int32) × (Nat → Nat → Int64)) (rv_ : (Bool × ((Nat → Nat → Int32) × (Nat → Nat → Int64))) ⊕ (Int32 × Int32 × ((Nat → Nat → Int32) × (Nat → Nat → Int64)))), f_X4_readsDigits_L5 x2 N_ n_ x3 x4 S = some rv_ → (∀ v_, rv_ = .inr v_ → Gm p l e (headSpec wA_X4_readsDigits ({ frames := 1, cells := 0, slots := 0, locals := 22 } : Room)).room s m args below meth c Q g A 5 0 0 (wM g b v_.2.2) [some (.ref (b 0)), some (.int x1), some (.int x2), some (.int v_.1), some (.int v_.2.1)] [] 56) → (∀ r_, rv_ = .inl r_ → Q = MQ below (qI g wc0 (b2i r_.1) (wM g b r_.2) s.heap.size) args s 0 0 A) → Gm p l e (headSpec wA_X4_readsDigits ({ frames := 1, cells := 0, slots := 0, locals := 22 } : Room)).room s m args below meth c Q g A 5 0 0 (wM g b S) [some (.ref (b 0)), some (.int x1), some (.int x2), some (.int x3), some (.int x4)] [] 5 := by
  intro n_
  induction n_ with
  | zero =>
    intro x3 x4 S rv_ hR
    simp [f_X4_readsDigits_L5] at hR
  | succ n_ ih =>
    intro x3 x4 S rv_ hR hk hq
    rw [f_X4_readsDigits_L5] at hR
    refine g_iload C dX4_readsDigits_5 rfl 7 rfl ?_
    refine g_iload_n C dX4_readsDigits_7 rfl 8 rfl ?_
    refine g_icmp_ge C dX4_readsDigits_8 hR 56 11 (by decide) rfl (fun c_8 hR => ?_) (fun c_8 hR => ?_)
    · obtain rfl := Option.some.inj hR
      refine g_lv [some (.ref (b 0)), some (.int x1), some (.int x2), some (.int x3), some (.int x4)] (lvLe.sm (lvLe.sm (lvLe.sm (lvLe.sm (lvLe.sm lvLe.nil))))) ?_
      exact hk _ rfl
    · refine g_aload_n C dX4_readsDigits_11 rfl 12 rfl ?_
      obtain ⟨v5, hv5, hR⟩ := opt_b hR
      refine g_callIR C (rn_V C (k_X4_next l g b S N_ v5 hv5) (cwV 0 C.1.2.2.2.2 (gdV wl_221 wl_218 wl_219 wl_220 wl_5) rfl rfl rfl hd_X4_next ⟨Nat.le_of_ble_eq_true rfl, Nat.le_of_ble_eq_true rfl⟩) 0 rfl rfl _ rg_C rg_n rfl rfl (Nat.le_of_ble_eq_true rfl) ⟨Nat.zero_le _, Nat.zero_le _⟩ dX4_readsDigits_12) 15 rfl ?_
      refine g_bipush C dX4_readsDigits_15 48 bp_48 17 rfl ?_
      refine g_bipush C dX4_readsDigits_17 57 bp_57 19 rfl ?_
      refine g_callIR C (rn_S C (k_X4_isIn l g v5 48 57) (va_cwS 3 C.1.2.2.2.2 (gdS wl_232 wl_230 wl_231 wl_5) rfl rfl rfl hd_X4_isIn.2 ⟨Nat.le_of_ble_eq_true rfl, Nat.le_of_ble_eq_true rfl⟩) [] rfl rfl rfl rfl (Nat.le_of_ble_eq_true rfl) ⟨Nat.zero_le _, Nat.zero_le _⟩ dX4_readsDigits_19) 22 rfl ?_
      refine g_if_ne C dX4_readsDigits_22 hR 27 25 (by decide) rfl (fun c_22 hR => ?_) (fun c_22 hR => ?_)
      · refine g_bipush C dX4_readsDigits_27 10 bp_10 29 rfl ?_
        refine g_iload_n C dX4_readsDigits_29 rfl 30 rfl ?_
        refine g_imul C dX4_readsDigits_30 31 rfl ?_
        refine g_aload_n C dX4_readsDigits_31 rfl 32 rfl ?_
        obtain ⟨v6, hv6, hR⟩ := opt_b hR
        refine g_callIR C (rn_V C (k_X4_next l g b S N_ v6 hv6) (cwV 0 C.1.2.2.2.2 (gdV wl_221 wl_218 wl_219 wl_220 wl_5) rfl rfl rfl hd_X4_next ⟨Nat.le_of_ble_eq_true rfl, Nat.le_of_ble_eq_true rfl⟩) 0 rfl rfl _ rg_C rg_n rfl rfl (Nat.le_of_ble_eq_true rfl) ⟨Nat.zero_le _, Nat.zero_le _⟩ dX4_readsDigits_32) 35 rfl ?_
        refine g_iadd C dX4_readsDigits_35 36 rfl ?_
        refine g_bipush C dX4_readsDigits_36 48 bp_48 38 rfl ?_
        refine g_isub C dX4_readsDigits_38 39 rfl ?_
        refine g_istore_n C dX4_readsDigits_39 [_, _, _, _, _] (Nat.le_of_ble_eq_true rfl) rfl rfl 40 rfl ?_
        refine g_aload_n C dX4_readsDigits_40 rfl 41 rfl ?_
        refine g_dup C dX4_readsDigits_41 rfl 42 rfl ?_
        refine g_get (v := .int (S.1 0 6)) C (hiC hiA_4) 0 rfl rfl 19 (by decide) (List.mem_cons_of_mem _ wl_212) rfl rfl dX4_readsDigits_42 45 rfl ?_
        refine g_iconst C dX4_readsDigits_45 1 ic_1 46 rfl ?_
        refine g_iadd C dX4_readsDigits_46 47 rfl ?_
        refine g_put C (hiC hiA_4) tyX4 tyX4_ok nmX4 0 rfl rfl 19 (by decide) (List.mem_cons_of_mem _ wl_212) rfl rfl rfl rfl (Nat.le_of_ble_eq_true rfl) dX4_readsDigits_47 (wMr g b (S.1 0 0) (S.1 0 1) (S.1 0 2) (S.1 0 3) (S.1 0 4) (S.1 0 5) ((S.1 0 6) + 1) (S.1 0 7) (S.1 0 8) (S.1 0 9) (S.1 0 10) (S.1 0 11) (S.1 0 12) (S.1 0 13) (S.1 0 14) (S.1 1) (S.1 2) (S.1 3) (S.1 4) (S.1 5) (S.1 6) (S.1 7) (S.1 8) (S.1 9) (S.1 10) (S.1 11) (S.1 12) (S.1 13) (S.1 14) (S.1 15) (S.1 16) (S.2 0) (S.2 1) (S.2 2)) rfl 50 rfl ?_
        refine g_iinc C dX4_readsDigits_50 rfl 1 ic_1 [_, _, _, _, _] (Nat.le_of_ble_eq_true rfl) rfl rfl 53 rfl ?_
        refine g_goto C dX4_readsDigits_53 5 (by decide) ?_
        refine g_lv [some (.ref (b 0)), some (.int x1), some (.int x2), some (.int (((10 * x3) + v6) - 48)), some (.int (x4 + 1))] (lvLe.sm (lvLe.sm (lvLe.sm (lvLe.sm (lvLe.sm lvLe.nil))))) ?_
        exact ih _ _ _ rv_ hR hk hq
      · refine g_iconst C dX4_readsDigits_25 0 ic_0 26 rfl ?_
        obtain rfl := Option.some.inj hR
        rw [hq _ rfl]
        exact g_zret C hr hlocks (by decide) hA rfl (by first | (dsimp only; done) | rfl) dX4_readsDigits_26
def f_X4_readsDigits (S : (Nat → Nat → Int32) × (Nat → Nat → Int64)) (p0 : Int32) (p1 : Int32) (N_ : Nat) : Option (Bool × ((Nat → Nat → Int32) × (Nat → Nat → Int64))) :=
  (f_X4_readsDigits_L5 p1 N_ N_ 0 0 S).bind fun v7 =>
    match v7 with
    | .inl r => some r
    | .inr v8 =>
      if p0 < 0 ∨ 192 ≤ (Int32.toNatClampNeg p0) then none else
      some (true, ((kS v8.2.2.1 13 (upd (v8.2.2.1 13) (Int32.toNatClampNeg p0) v8.1)), v8.2.2.2))
set_option maxRecDepth 100000 in
set_option maxHeartbeats 4000000 in
theorem k_X4_readsDigits (l : Launch) (g : gE) (b : Nat → Nat) (S : (Nat → Nat → Int32) × (Nat → Nat → Int64)) (p0 : Int32) (p1 : Int32) (N_ : Nat) (R_ : Bool × ((Nat → Nat → Int32) × (Nat → Nat → Int64))) (hR : f_X4_readsDigits S p0 p1 N_ = some R_) : FnI l g yX4_readsDigits wA_X4_readsDigits { frames := 1, cells := 0, slots := 0, locals := 22 } [.ref (b 0), .int p0, .int p1] (wM g b S) (b2i R_.1) (wM g b R_.2) := by
  refine fEntry (As := [.ref (b 0), .int p0, .int p1]) (maxL := 5) (ret := (some .boolean)) (by decide) rfl [some (.ref (b 0)), some (.int p0), some (.int p1), none, none] (Nat.le_of_ble_eq_true rfl) (lvInB.to (lvInB.sm (lvInB.sm (lvInB.sm (lvInB.nn (lvInB.nn lvInB.nil)))))) ?_
  intro p e s m below meth c A C hr hlocks hname hA
  have C : Cx p s m _ c g A cX4_readsDigits 5 wA_X4_readsDigits RX4 := C
  rw [f_X4_readsDigits] at hR
  refine g_iconst C dX4_readsDigits_0 0 ic_0 1 rfl ?_
  refine g_istore_n C dX4_readsDigits_1 [_, _, _, _, _] (Nat.le_of_ble_eq_true rfl) rfl rfl 2 rfl ?_
  refine g_iconst C dX4_readsDigits_2 0 ic_0 3 rfl ?_
  refine g_istore C dX4_readsDigits_3 [_, _, _, _, _] (Nat.le_of_ble_eq_true rfl) rfl rfl 5 rfl ?_
  refine g_lv [some (.ref (b 0)), some (.int p0), some (.int p1), some (.int 0), some (.int 0)] (lvLe.sm (lvLe.sm (lvLe.sm (lvLe.sm (lvLe.sm lvLe.nil))))) ?_
  obtain ⟨v7, hv7, hR⟩ := opt_b hR
  rcases v7 with r_ | v8
  · refine k_X4_readsDigits_L5 l g C hr hlocks hA N_ p0 p1 N_ 0 0 S _ hv7 (fun _ h => nomatch h) (fun r h => ?_)
    cases h
    obtain rfl := Option.some.inj hR
    rfl
  · refine k_X4_readsDigits_L5 l g C hr hlocks hA N_ p0 p1 N_ 0 0 S _ hv7 (fun _ h => ?_) (fun _ h => nomatch h)
    cases h
    refine g_aload_n C dX4_readsDigits_56 rfl 57 rfl ?_
    refine g_get (v := .ref (b 13)) C (hiC hiA_4) 0 rfl rfl 17 (by decide) (List.mem_cons_of_mem _ wl_78) rfl rfl dX4_readsDigits_57 60 rfl ?_
    refine g_iload_n C dX4_readsDigits_60 rfl 61 rfl ?_
    refine g_iload_n C dX4_readsDigits_61 rfl 62 rfl ?_
    obtain ⟨h_62, hR⟩ := opt_n hR
    refine g_iast (f := (v8.2.2.1 13)) C 13 rfl h_62 dX4_readsDigits_62 (wMr g b (v8.2.2.1 0 0) (v8.2.2.1 0 1) (v8.2.2.1 0 2) (v8.2.2.1 0 3) (v8.2.2.1 0 4) (v8.2.2.1 0 5) (v8.2.2.1 0 6) (v8.2.2.1 0 7) (v8.2.2.1 0 8) (v8.2.2.1 0 9) (v8.2.2.1 0 10) (v8.2.2.1 0 11) (v8.2.2.1 0 12) (v8.2.2.1 0 13) (v8.2.2.1 0 14) (v8.2.2.1 1) (v8.2.2.1 2) (v8.2.2.1 3) (v8.2.2.1 4) (v8.2.2.1 5) (v8.2.2.1 6) (v8.2.2.1 7) (v8.2.2.1 8) (v8.2.2.1 9) (v8.2.2.1 10) (v8.2.2.1 11) (v8.2.2.1 12) (upd (v8.2.2.1 13) (Int32.toNatClampNeg p0) v8.1) (v8.2.2.1 14) (v8.2.2.1 15) (v8.2.2.1 16) (v8.2.2.2 0) (v8.2.2.2 1) (v8.2.2.2 2)) rfl 63 rfl ?_
    refine g_iconst C dX4_readsDigits_63 1 ic_1 64 rfl ?_
    obtain rfl := Option.some.inj hR
    exact g_zret C hr hlocks (by decide) hA rfl (by first | (dsimp only; done) | rfl) dX4_readsDigits_64
theorem hd_X4_readsAll : yX4_readsAll.cls = RX4 ∧ yX4_readsAll.cls ≠ "java/lang/invoke/MethodHandle" ∧ yX4_readsAll.cls ≠ "java/lang/invoke/VarHandle" ∧ (parseMethodDescriptor yX4_readsAll.desc).map (fun d => d.parameters.length) = some 2 := by decide +kernel
def f_X4_readsAll (S : (Nat → Nat → Int32) × (Nat → Nat → Int64)) (p0 : Int32) (p1 : Int32) (N_ : Nat) : Option (Bool × ((Nat → Nat → Int32) × (Nat → Nat → Int64))) :=
  if p0 = 99 then
    (f_X4_readsDigits S p1 2 N_).bind fun v1 =>
    some (v1.1, v1.2)
  else
    if p0 = 106 then
      (f_X4_readsDigits S p1 1 N_).bind fun v2 =>
      if (b2i v2.1) = 0 then
        some (false, v2.2)
      else
        (f_X4_readsDigits v2.2 (p1 + 1) 1 N_).bind fun v3 =>
        if (b2i v3.1) = 0 then
          some (false, v3.2)
        else
          (f_X4_readsDigits v3.2 (p1 + 2) 1 N_).bind fun v4 =>
          if (b2i v4.1) = 0 then
            some (false, v4.2)
          else
            (f_X4_readsDigits v4.2 (p1 + 3) 3 N_).bind fun v5 =>
            if (b2i v5.1) = 0 then
              some (false, v5.2)
            else
              some (true, v5.2)
    else
      if p0 = 115 then
        (f_X4_readsDigits S p1 1 N_).bind fun v6 =>
        if (b2i v6.1) = 0 then
          some (false, v6.2)
        else
          (f_X4_readsDigits v6.2 (p1 + 1) 1 N_).bind fun v7 =>
          if (b2i v7.1) = 0 then
            some (false, v7.2)
          else
            some (true, v7.2)
      else
        if p0 = 116 then
          (f_X4_readsDigits S p1 1 N_).bind fun v8 =>
          if (b2i v8.1) = 0 then
            some (false, v8.2)
          else
            (f_X4_readsDigits v8.2 (p1 + 1) 1 N_).bind fun v9 =>
            if (b2i v9.1) = 0 then
              some (false, v9.2)
            else
              some (true, v9.2)
        else
          if p0 = 119 then
            (f_X4_readsDigits S p1 1 N_).bind fun v10 =>
            if (b2i v10.1) = 0 then
              some (false, v10.2)
            else
              (f_X4_readsDigits v10.2 (p1 + 1) 2 N_).bind fun v11 =>
              if (b2i v11.1) = 0 then
                some (false, v11.2)
              else
                some (true, v11.2)
          else
            (f_X4_readsDigits S p1 1 N_).bind fun v12 =>
            some (v12.1, v12.2)
set_option maxRecDepth 100000 in
set_option maxHeartbeats 4000000 in
theorem k_X4_readsAll (l : Launch) (g : gE) (b : Nat → Nat) (S : (Nat → Nat → Int32) × (Nat → Nat → Int64)) (p0 : Int32) (p1 : Int32) (N_ : Nat) (R_ : Bool × ((Nat → Nat → Int32) × (Nat → Nat → Int64))) (hR : f_X4_readsAll S p0 p1 N_ = some R_) : FnI l g yX4_readsAll wA_X4_readsAll { frames := 2, cells := 0, slots := 0, locals := 46 } [.ref (b 0), .int p0, .int p1] (wM g b S) (b2i R_.1) (wM g b R_.2) := by
  refine fEntry (As := [.ref (b 0), .int p0, .int p1]) (maxL := 3) (ret := (some .boolean)) (by decide) rfl [some (.ref (b 0)), some (.int p0), some (.int p1)] (Nat.le_of_ble_eq_true rfl) (lvInB.to (lvInB.sm (lvInB.sm (lvInB.sm lvInB.nil)))) ?_
  intro p e s m below meth c A C hr hlocks hname hA
  have C : Cx p s m _ c g A cX4_readsAll 3 wA_X4_readsAll RX4 := C
  rw [f_X4_readsAll] at hR
  refine g_iload_n C dX4_readsAll_0 rfl 1 rfl ?_
  rcases Decidable.em (p0 = 99) with c_1_99 | c_1_99
  · have hR := (if_pos c_1_99).symm.trans hR
    refine g_look C dX4_readsAll_1 99 c_1_99 (99) 100 (by decide) (by decide) ?_
    refine g_aload_n C dX4_readsAll_100 rfl 101 rfl ?_
    refine g_iload_n C dX4_readsAll_101 rfl 102 rfl ?_
    refine g_iconst C dX4_readsAll_102 2 ic_2 103 rfl ?_
    obtain ⟨v1, hv1, hR⟩ := opt_b hR
    refine g_callI C (rn_V C (k_X4_readsDigits l g b S p1 2 N_ v1 hv1) (cwV 2 C.1.2.2.2.2 (gdV wl_229 wl_226 wl_227 wl_228 wl_5) rfl rfl rfl hd_X4_readsDigits ⟨Nat.le_of_ble_eq_true rfl, Nat.le_of_ble_eq_true rfl⟩) 0 rfl rfl _ rg_C rg_n rfl rfl (Nat.le_of_ble_eq_true rfl) ⟨Nat.zero_le _, Nat.zero_le _⟩ dX4_readsAll_103) (wM g b v1.2) (rg_put (wM_len.trans wM_len.symm)) (rg_len (wM_len.trans wM_len.symm)) 106 rfl ?_
    obtain rfl := Option.some.inj hR
    exact g_zret C hr hlocks (b2i_nar _) hA rfl (by first | (dsimp only; done) | rfl) dX4_readsAll_106
  · have hR := (if_neg c_1_99).symm.trans hR
    rcases Decidable.em (p0 = 106) with c_1_106 | c_1_106
    · have hR := (if_pos c_1_106).symm.trans hR
      refine g_look C dX4_readsAll_1 106 c_1_106 (51) 52 (by decide) (by decide) ?_
      refine g_aload_n C dX4_readsAll_52 rfl 53 rfl ?_
      refine g_iload_n C dX4_readsAll_53 rfl 54 rfl ?_
      refine g_iconst C dX4_readsAll_54 1 ic_1 55 rfl ?_
      obtain ⟨v2, hv2, hR⟩ := opt_b hR
      refine g_callI C (rn_V C (k_X4_readsDigits l g b S p1 1 N_ v2 hv2) (cwV 2 C.1.2.2.2.2 (gdV wl_229 wl_226 wl_227 wl_228 wl_5) rfl rfl rfl hd_X4_readsDigits ⟨Nat.le_of_ble_eq_true rfl, Nat.le_of_ble_eq_true rfl⟩) 0 rfl rfl _ rg_C rg_n rfl rfl (Nat.le_of_ble_eq_true rfl) ⟨Nat.zero_le _, Nat.zero_le _⟩ dX4_readsAll_55) (wM g b v2.2) (rg_put (wM_len.trans wM_len.symm)) (rg_len (wM_len.trans wM_len.symm)) 58 rfl ?_
      refine g_if_eq C dX4_readsAll_58 hR 98 61 (by decide) rfl (fun c_58 hR => ?_) (fun c_58 hR => ?_)
      · refine g_iconst C dX4_readsAll_98 0 ic_0 99 rfl ?_
        obtain rfl := Option.some.inj hR
        exact g_zret C hr hlocks (by decide) hA rfl (by first | (dsimp only; done) | rfl) dX4_readsAll_99
      · refine g_aload_n C dX4_readsAll_61 rfl 62 rfl ?_
        refine g_iload_n C dX4_readsAll_62 rfl 63 rfl ?_
        refine g_iconst C dX4_readsAll_63 1 ic_1 64 rfl ?_
        refine g_iadd C dX4_readsAll_64 65 rfl ?_
        refine g_iconst C dX4_readsAll_65 1 ic_1 66 rfl ?_
        obtain ⟨v3, hv3, hR⟩ := opt_b hR
        refine g_callI C (rn_V C (k_X4_readsDigits l g b v2.2 (p1 + 1) 1 N_ v3 hv3) (cwV 2 C.1.2.2.2.2 (gdV wl_229 wl_226 wl_227 wl_228 wl_5) rfl rfl rfl hd_X4_readsDigits ⟨Nat.le_of_ble_eq_true rfl, Nat.le_of_ble_eq_true rfl⟩) 0 rfl rfl _ rg_C rg_n rfl rfl (Nat.le_of_ble_eq_true rfl) ⟨Nat.zero_le _, Nat.zero_le _⟩ dX4_readsAll_66) (wM g b v3.2) (rg_put (wM_len.trans wM_len.symm)) (rg_len (wM_len.trans wM_len.symm)) 69 rfl ?_
        refine g_if_eq C dX4_readsAll_69 hR 98 72 (by decide) rfl (fun c_69 hR => ?_) (fun c_69 hR => ?_)
        · refine g_iconst C dX4_readsAll_98 0 ic_0 99 rfl ?_
          obtain rfl := Option.some.inj hR
          exact g_zret C hr hlocks (by decide) hA rfl (by first | (dsimp only; done) | rfl) dX4_readsAll_99
        · refine g_aload_n C dX4_readsAll_72 rfl 73 rfl ?_
          refine g_iload_n C dX4_readsAll_73 rfl 74 rfl ?_
          refine g_iconst C dX4_readsAll_74 2 ic_2 75 rfl ?_
          refine g_iadd C dX4_readsAll_75 76 rfl ?_
          refine g_iconst C dX4_readsAll_76 1 ic_1 77 rfl ?_
          obtain ⟨v4, hv4, hR⟩ := opt_b hR
          refine g_callI C (rn_V C (k_X4_readsDigits l g b v3.2 (p1 + 2) 1 N_ v4 hv4) (cwV 2 C.1.2.2.2.2 (gdV wl_229 wl_226 wl_227 wl_228 wl_5) rfl rfl rfl hd_X4_readsDigits ⟨Nat.le_of_ble_eq_true rfl, Nat.le_of_ble_eq_true rfl⟩) 0 rfl rfl _ rg_C rg_n rfl rfl (Nat.le_of_ble_eq_true rfl) ⟨Nat.zero_le _, Nat.zero_le _⟩ dX4_readsAll_77) (wM g b v4.2) (rg_put (wM_len.trans wM_len.symm)) (rg_len (wM_len.trans wM_len.symm)) 80 rfl ?_
          refine g_if_eq C dX4_readsAll_80 hR 98 83 (by decide) rfl (fun c_80 hR => ?_) (fun c_80 hR => ?_)
          · refine g_iconst C dX4_readsAll_98 0 ic_0 99 rfl ?_
            obtain rfl := Option.some.inj hR
            exact g_zret C hr hlocks (by decide) hA rfl (by first | (dsimp only; done) | rfl) dX4_readsAll_99
          · refine g_aload_n C dX4_readsAll_83 rfl 84 rfl ?_
            refine g_iload_n C dX4_readsAll_84 rfl 85 rfl ?_
            refine g_iconst C dX4_readsAll_85 3 ic_3 86 rfl ?_
            refine g_iadd C dX4_readsAll_86 87 rfl ?_
            refine g_iconst C dX4_readsAll_87 3 ic_3 88 rfl ?_
            obtain ⟨v5, hv5, hR⟩ := opt_b hR
            refine g_callI C (rn_V C (k_X4_readsDigits l g b v4.2 (p1 + 3) 3 N_ v5 hv5) (cwV 2 C.1.2.2.2.2 (gdV wl_229 wl_226 wl_227 wl_228 wl_5) rfl rfl rfl hd_X4_readsDigits ⟨Nat.le_of_ble_eq_true rfl, Nat.le_of_ble_eq_true rfl⟩) 0 rfl rfl _ rg_C rg_n rfl rfl (Nat.le_of_ble_eq_true rfl) ⟨Nat.zero_le _, Nat.zero_le _⟩ dX4_readsAll_88) (wM g b v5.2) (rg_put (wM_len.trans wM_len.symm)) (rg_len (wM_len.trans wM_len.symm)) 91 rfl ?_
            refine g_if_eq C dX4_readsAll_91 hR 98 94 (by decide) rfl (fun c_91 hR => ?_) (fun c_91 hR => ?_)
            · refine g_iconst C dX4_readsAll_98 0 ic_0 99 rfl ?_
              obtain rfl := Option.some.inj hR
              exact g_zret C hr hlocks (by decide) hA rfl (by first | (dsimp only; done) | rfl) dX4_readsAll_99
            · refine g_iconst C dX4_readsAll_94 1 ic_1 95 rfl ?_
              refine g_goto C dX4_readsAll_95 99 (by decide) ?_
              obtain rfl := Option.some.inj hR
              exact g_zret C hr hlocks (by decide) hA rfl (by first | (dsimp only; done) | rfl) dX4_readsAll_99
    · have hR := (if_neg c_1_106).symm.trans hR
      rcases Decidable.em (p0 = 115) with c_1_115 | c_1_115
      · have hR := (if_pos c_1_115).symm.trans hR
        refine g_look C dX4_readsAll_1 115 c_1_115 (132) 133 (by decide) (by decide) ?_
        refine g_aload_n C dX4_readsAll_133 rfl 134 rfl ?_
        refine g_iload_n C dX4_readsAll_134 rfl 135 rfl ?_
        refine g_iconst C dX4_readsAll_135 1 ic_1 136 rfl ?_
        obtain ⟨v6, hv6, hR⟩ := opt_b hR
        refine g_callI C (rn_V C (k_X4_readsDigits l g b S p1 1 N_ v6 hv6) (cwV 2 C.1.2.2.2.2 (gdV wl_229 wl_226 wl_227 wl_228 wl_5) rfl rfl rfl hd_X4_readsDigits ⟨Nat.le_of_ble_eq_true rfl, Nat.le_of_ble_eq_true rfl⟩) 0 rfl rfl _ rg_C rg_n rfl rfl (Nat.le_of_ble_eq_true rfl) ⟨Nat.zero_le _, Nat.zero_le _⟩ dX4_readsAll_136) (wM g b v6.2) (rg_put (wM_len.trans wM_len.symm)) (rg_len (wM_len.trans wM_len.symm)) 139 rfl ?_
        refine g_if_eq C dX4_readsAll_139 hR 157 142 (by decide) rfl (fun c_139 hR => ?_) (fun c_139 hR => ?_)
        · refine g_iconst C dX4_readsAll_157 0 ic_0 158 rfl ?_
          obtain rfl := Option.some.inj hR
          exact g_zret C hr hlocks (by decide) hA rfl (by first | (dsimp only; done) | rfl) dX4_readsAll_158
        · refine g_aload_n C dX4_readsAll_142 rfl 143 rfl ?_
          refine g_iload_n C dX4_readsAll_143 rfl 144 rfl ?_
          refine g_iconst C dX4_readsAll_144 1 ic_1 145 rfl ?_
          refine g_iadd C dX4_readsAll_145 146 rfl ?_
          refine g_iconst C dX4_readsAll_146 1 ic_1 147 rfl ?_
          obtain ⟨v7, hv7, hR⟩ := opt_b hR
          refine g_callI C (rn_V C (k_X4_readsDigits l g b v6.2 (p1 + 1) 1 N_ v7 hv7) (cwV 2 C.1.2.2.2.2 (gdV wl_229 wl_226 wl_227 wl_228 wl_5) rfl rfl rfl hd_X4_readsDigits ⟨Nat.le_of_ble_eq_true rfl, Nat.le_of_ble_eq_true rfl⟩) 0 rfl rfl _ rg_C rg_n rfl rfl (Nat.le_of_ble_eq_true rfl) ⟨Nat.zero_le _, Nat.zero_le _⟩ dX4_readsAll_147) (wM g b v7.2) (rg_put (wM_len.trans wM_len.symm)) (rg_len (wM_len.trans wM_len.symm)) 150 rfl ?_
          refine g_if_eq C dX4_readsAll_150 hR 157 153 (by decide) rfl (fun c_150 hR => ?_) (fun c_150 hR => ?_)
          · refine g_iconst C dX4_readsAll_157 0 ic_0 158 rfl ?_
            obtain rfl := Option.some.inj hR
            exact g_zret C hr hlocks (by decide) hA rfl (by first | (dsimp only; done) | rfl) dX4_readsAll_158
          · refine g_iconst C dX4_readsAll_153 1 ic_1 154 rfl ?_
            refine g_goto C dX4_readsAll_154 158 (by decide) ?_
            obtain rfl := Option.some.inj hR
            exact g_zret C hr hlocks (by decide) hA rfl (by first | (dsimp only; done) | rfl) dX4_readsAll_158
      · have hR := (if_neg c_1_115).symm.trans hR
        rcases Decidable.em (p0 = 116) with c_1_116 | c_1_116
        · have hR := (if_pos c_1_116).symm.trans hR
          refine g_look C dX4_readsAll_1 116 c_1_116 (132) 133 (by decide) (by decide) ?_
          refine g_aload_n C dX4_readsAll_133 rfl 134 rfl ?_
          refine g_iload_n C dX4_readsAll_134 rfl 135 rfl ?_
          refine g_iconst C dX4_readsAll_135 1 ic_1 136 rfl ?_
          obtain ⟨v8, hv8, hR⟩ := opt_b hR
          refine g_callI C (rn_V C (k_X4_readsDigits l g b S p1 1 N_ v8 hv8) (cwV 2 C.1.2.2.2.2 (gdV wl_229 wl_226 wl_227 wl_228 wl_5) rfl rfl rfl hd_X4_readsDigits ⟨Nat.le_of_ble_eq_true rfl, Nat.le_of_ble_eq_true rfl⟩) 0 rfl rfl _ rg_C rg_n rfl rfl (Nat.le_of_ble_eq_true rfl) ⟨Nat.zero_le _, Nat.zero_le _⟩ dX4_readsAll_136) (wM g b v8.2) (rg_put (wM_len.trans wM_len.symm)) (rg_len (wM_len.trans wM_len.symm)) 139 rfl ?_
          refine g_if_eq C dX4_readsAll_139 hR 157 142 (by decide) rfl (fun c_139 hR => ?_) (fun c_139 hR => ?_)
          · refine g_iconst C dX4_readsAll_157 0 ic_0 158 rfl ?_
            obtain rfl := Option.some.inj hR
            exact g_zret C hr hlocks (by decide) hA rfl (by first | (dsimp only; done) | rfl) dX4_readsAll_158
          · refine g_aload_n C dX4_readsAll_142 rfl 143 rfl ?_
            refine g_iload_n C dX4_readsAll_143 rfl 144 rfl ?_
            refine g_iconst C dX4_readsAll_144 1 ic_1 145 rfl ?_
            refine g_iadd C dX4_readsAll_145 146 rfl ?_
            refine g_iconst C dX4_readsAll_146 1 ic_1 147 rfl ?_
            obtain ⟨v9, hv9, hR⟩ := opt_b hR
            refine g_callI C (rn_V C (k_X4_readsDigits l g b v8.2 (p1 + 1) 1 N_ v9 hv9) (cwV 2 C.1.2.2.2.2 (gdV wl_229 wl_226 wl_227 wl_228 wl_5) rfl rfl rfl hd_X4_readsDigits ⟨Nat.le_of_ble_eq_true rfl, Nat.le_of_ble_eq_true rfl⟩) 0 rfl rfl _ rg_C rg_n rfl rfl (Nat.le_of_ble_eq_true rfl) ⟨Nat.zero_le _, Nat.zero_le _⟩ dX4_readsAll_147) (wM g b v9.2) (rg_put (wM_len.trans wM_len.symm)) (rg_len (wM_len.trans wM_len.symm)) 150 rfl ?_
            refine g_if_eq C dX4_readsAll_150 hR 157 153 (by decide) rfl (fun c_150 hR => ?_) (fun c_150 hR => ?_)
            · refine g_iconst C dX4_readsAll_157 0 ic_0 158 rfl ?_
              obtain rfl := Option.some.inj hR
              exact g_zret C hr hlocks (by decide) hA rfl (by first | (dsimp only; done) | rfl) dX4_readsAll_158
            · refine g_iconst C dX4_readsAll_153 1 ic_1 154 rfl ?_
              refine g_goto C dX4_readsAll_154 158 (by decide) ?_
              obtain rfl := Option.some.inj hR
              exact g_zret C hr hlocks (by decide) hA rfl (by first | (dsimp only; done) | rfl) dX4_readsAll_158
        · have hR := (if_neg c_1_116).symm.trans hR
          rcases Decidable.em (p0 = 119) with c_1_119 | c_1_119
          · have hR := (if_pos c_1_119).symm.trans hR
            refine g_look C dX4_readsAll_1 119 c_1_119 (106) 107 (by decide) (by decide) ?_
            refine g_aload_n C dX4_readsAll_107 rfl 108 rfl ?_
            refine g_iload_n C dX4_readsAll_108 rfl 109 rfl ?_
            refine g_iconst C dX4_readsAll_109 1 ic_1 110 rfl ?_
            obtain ⟨v10, hv10, hR⟩ := opt_b hR
            refine g_callI C (rn_V C (k_X4_readsDigits l g b S p1 1 N_ v10 hv10) (cwV 2 C.1.2.2.2.2 (gdV wl_229 wl_226 wl_227 wl_228 wl_5) rfl rfl rfl hd_X4_readsDigits ⟨Nat.le_of_ble_eq_true rfl, Nat.le_of_ble_eq_true rfl⟩) 0 rfl rfl _ rg_C rg_n rfl rfl (Nat.le_of_ble_eq_true rfl) ⟨Nat.zero_le _, Nat.zero_le _⟩ dX4_readsAll_110) (wM g b v10.2) (rg_put (wM_len.trans wM_len.symm)) (rg_len (wM_len.trans wM_len.symm)) 113 rfl ?_
            refine g_if_eq C dX4_readsAll_113 hR 131 116 (by decide) rfl (fun c_113 hR => ?_) (fun c_113 hR => ?_)
            · refine g_iconst C dX4_readsAll_131 0 ic_0 132 rfl ?_
              obtain rfl := Option.some.inj hR
              exact g_zret C hr hlocks (by decide) hA rfl (by first | (dsimp only; done) | rfl) dX4_readsAll_132
            · refine g_aload_n C dX4_readsAll_116 rfl 117 rfl ?_
              refine g_iload_n C dX4_readsAll_117 rfl 118 rfl ?_
              refine g_iconst C dX4_readsAll_118 1 ic_1 119 rfl ?_
              refine g_iadd C dX4_readsAll_119 120 rfl ?_
              refine g_iconst C dX4_readsAll_120 2 ic_2 121 rfl ?_
              obtain ⟨v11, hv11, hR⟩ := opt_b hR
              refine g_callI C (rn_V C (k_X4_readsDigits l g b v10.2 (p1 + 1) 2 N_ v11 hv11) (cwV 2 C.1.2.2.2.2 (gdV wl_229 wl_226 wl_227 wl_228 wl_5) rfl rfl rfl hd_X4_readsDigits ⟨Nat.le_of_ble_eq_true rfl, Nat.le_of_ble_eq_true rfl⟩) 0 rfl rfl _ rg_C rg_n rfl rfl (Nat.le_of_ble_eq_true rfl) ⟨Nat.zero_le _, Nat.zero_le _⟩ dX4_readsAll_121) (wM g b v11.2) (rg_put (wM_len.trans wM_len.symm)) (rg_len (wM_len.trans wM_len.symm)) 124 rfl ?_
              refine g_if_eq C dX4_readsAll_124 hR 131 127 (by decide) rfl (fun c_124 hR => ?_) (fun c_124 hR => ?_)
              · refine g_iconst C dX4_readsAll_131 0 ic_0 132 rfl ?_
                obtain rfl := Option.some.inj hR
                exact g_zret C hr hlocks (by decide) hA rfl (by first | (dsimp only; done) | rfl) dX4_readsAll_132
              · refine g_iconst C dX4_readsAll_127 1 ic_1 128 rfl ?_
                refine g_goto C dX4_readsAll_128 132 (by decide) ?_
                obtain rfl := Option.some.inj hR
                exact g_zret C hr hlocks (by decide) hA rfl (by first | (dsimp only; done) | rfl) dX4_readsAll_132
          · have hR := (if_neg c_1_119).symm.trans hR
            refine g_lookE C dX4_readsAll_1 [99, 106, 115, 116, 119] (ne_c c_1_99 (ne_c c_1_106 (ne_c c_1_115 (ne_c c_1_116 (ne_c c_1_119 ne_n))))) (by decide +kernel) (by decide +kernel) 159 (by decide) ?_
            refine g_aload_n C dX4_readsAll_159 rfl 160 rfl ?_
            refine g_iload_n C dX4_readsAll_160 rfl 161 rfl ?_
            refine g_iconst C dX4_readsAll_161 1 ic_1 162 rfl ?_
            obtain ⟨v12, hv12, hR⟩ := opt_b hR
            refine g_callI C (rn_V C (k_X4_readsDigits l g b S p1 1 N_ v12 hv12) (cwV 2 C.1.2.2.2.2 (gdV wl_229 wl_226 wl_227 wl_228 wl_5) rfl rfl rfl hd_X4_readsDigits ⟨Nat.le_of_ble_eq_true rfl, Nat.le_of_ble_eq_true rfl⟩) 0 rfl rfl _ rg_C rg_n rfl rfl (Nat.le_of_ble_eq_true rfl) ⟨Nat.zero_le _, Nat.zero_le _⟩ dX4_readsAll_162) (wM g b v12.2) (rg_put (wM_len.trans wM_len.symm)) (rg_len (wM_len.trans wM_len.symm)) 165 rfl ?_
            obtain rfl := Option.some.inj hR
            exact g_zret C hr hlocks (b2i_nar _) hA rfl (by first | (dsimp only; done) | rfl) dX4_readsAll_165
theorem hd_X4_statement : yX4_statement.cls = RX4 ∧ yX4_statement.cls ≠ "java/lang/invoke/MethodHandle" ∧ yX4_statement.cls ≠ "java/lang/invoke/VarHandle" ∧ (parseMethodDescriptor yX4_statement.desc).map (fun d => d.parameters.length) = some 0 := by decide +kernel
def f_X4_statement (S : (Nat → Nat → Int32) × (Nat → Nat → Int64)) (N_ : Nat) : Option (Bool × ((Nat → Nat → Int32) × (Nat → Nat → Int64))) :=
  (f_X4_next S N_).bind fun v1 =>
  if v1 = 106 then
    if (S.1 0 7) < 0 ∨ 48 ≤ (Int32.toNatClampNeg (S.1 0 7)) then none else
    if (S.1 0 7) < 0 ∨ 48 ≤ (Int32.toNatClampNeg (S.1 0 7)) then none else
    (f_X4_readsAll ((kS (kS (kS S.1 0 (upd (S.1 0) 6 ((S.1 0 6) + 1))) 11 (upd (S.1 11) (Int32.toNatClampNeg (S.1 0 7)) v1)) 12 (upd (S.1 12) (Int32.toNatClampNeg (S.1 0 7)) (S.1 0 6))), S.2) v1 (4 * (S.1 0 7)) N_).bind fun v2 =>
    if (b2i v2.1) = 0 then
      some (false, v2.2)
    else
      (f_X4_next v2.2 N_).bind fun v3 =>
      if v3 = 59 then
        some (true, ((kS v2.2.1 0 (upd (v2.2.1 0) 6 ((v2.2.1 0 6) + 1))), v2.2.2))
      else
        some (false, v2.2)
  else
    if v1 = 99 then
      if (S.1 0 7) < 0 ∨ 48 ≤ (Int32.toNatClampNeg (S.1 0 7)) then none else
      if (S.1 0 7) < 0 ∨ 48 ≤ (Int32.toNatClampNeg (S.1 0 7)) then none else
      (f_X4_readsAll ((kS (kS (kS S.1 0 (upd (S.1 0) 6 ((S.1 0 6) + 1))) 11 (upd (S.1 11) (Int32.toNatClampNeg (S.1 0 7)) v1)) 12 (upd (S.1 12) (Int32.toNatClampNeg (S.1 0 7)) (S.1 0 6))), S.2) v1 (4 * (S.1 0 7)) N_).bind fun v4 =>
      if (b2i v4.1) = 0 then
        some (false, v4.2)
      else
        (f_X4_next v4.2 N_).bind fun v5 =>
        if v5 = 59 then
          some (true, ((kS v4.2.1 0 (upd (v4.2.1 0) 6 ((v4.2.1 0 6) + 1))), v4.2.2))
        else
          some (false, v4.2)
    else
      if v1 = 119 then
        if (S.1 0 7) < 0 ∨ 48 ≤ (Int32.toNatClampNeg (S.1 0 7)) then none else
        if (S.1 0 7) < 0 ∨ 48 ≤ (Int32.toNatClampNeg (S.1 0 7)) then none else
        (f_X4_readsAll ((kS (kS (kS S.1 0 (upd (S.1 0) 6 ((S.1 0 6) + 1))) 11 (upd (S.1 11) (Int32.toNatClampNeg (S.1 0 7)) v1)) 12 (upd (S.1 12) (Int32.toNatClampNeg (S.1 0 7)) (S.1 0 6))), S.2) v1 (4 * (S.1 0 7)) N_).bind fun v6 =>
        if (b2i v6.1) = 0 then
          some (false, v6.2)
        else
          (f_X4_next v6.2 N_).bind fun v7 =>
          if v7 = 59 then
            some (true, ((kS v6.2.1 0 (upd (v6.2.1 0) 6 ((v6.2.1 0 6) + 1))), v6.2.2))
          else
            some (false, v6.2)
      else
        if v1 = 116 then
          if (S.1 0 7) < 0 ∨ 48 ≤ (Int32.toNatClampNeg (S.1 0 7)) then none else
          if (S.1 0 7) < 0 ∨ 48 ≤ (Int32.toNatClampNeg (S.1 0 7)) then none else
          (f_X4_readsAll ((kS (kS (kS S.1 0 (upd (S.1 0) 6 ((S.1 0 6) + 1))) 11 (upd (S.1 11) (Int32.toNatClampNeg (S.1 0 7)) v1)) 12 (upd (S.1 12) (Int32.toNatClampNeg (S.1 0 7)) (S.1 0 6))), S.2) v1 (4 * (S.1 0 7)) N_).bind fun v8 =>
          if (b2i v8.1) = 0 then
            some (false, v8.2)
          else
            (f_X4_next v8.2 N_).bind fun v9 =>
            if v9 = 59 then
              some (true, ((kS v8.2.1 0 (upd (v8.2.1 0) 6 ((v8.2.1 0 6) + 1))), v8.2.2))
            else
              some (false, v8.2)
        else
          if v1 = 112 then
            if (S.1 0 7) < 0 ∨ 48 ≤ (Int32.toNatClampNeg (S.1 0 7)) then none else
            if (S.1 0 7) < 0 ∨ 48 ≤ (Int32.toNatClampNeg (S.1 0 7)) then none else
            (f_X4_readsAll ((kS (kS (kS S.1 0 (upd (S.1 0) 6 ((S.1 0 6) + 1))) 11 (upd (S.1 11) (Int32.toNatClampNeg (S.1 0 7)) v1)) 12 (upd (S.1 12) (Int32.toNatClampNeg (S.1 0 7)) (S.1 0 6))), S.2) v1 (4 * (S.1 0 7)) N_).bind fun v10 =>
            if (b2i v10.1) = 0 then
              some (false, v10.2)
            else
              (f_X4_next v10.2 N_).bind fun v11 =>
              if v11 = 59 then
                some (true, ((kS v10.2.1 0 (upd (v10.2.1 0) 6 ((v10.2.1 0 6) + 1))), v10.2.2))
              else
                some (false, v10.2)
          else
            if v1 = 104 then
              if (S.1 0 7) < 0 ∨ 48 ≤ (Int32.toNatClampNeg (S.1 0 7)) then none else
              if (S.1 0 7) < 0 ∨ 48 ≤ (Int32.toNatClampNeg (S.1 0 7)) then none else
              (f_X4_readsAll ((kS (kS (kS S.1 0 (upd (S.1 0) 6 ((S.1 0 6) + 1))) 11 (upd (S.1 11) (Int32.toNatClampNeg (S.1 0 7)) v1)) 12 (upd (S.1 12) (Int32.toNatClampNeg (S.1 0 7)) (S.1 0 6))), S.2) v1 (4 * (S.1 0 7)) N_).bind fun v12 =>
              if (b2i v12.1) = 0 then
                some (false, v12.2)
              else
                (f_X4_next v12.2 N_).bind fun v13 =>
                if v13 = 59 then
                  some (true, ((kS v12.2.1 0 (upd (v12.2.1 0) 6 ((v12.2.1 0 6) + 1))), v12.2.2))
                else
                  some (false, v12.2)
            else
              if v1 = 115 then
                if (S.1 0 7) < 0 ∨ 48 ≤ (Int32.toNatClampNeg (S.1 0 7)) then none else
                if (S.1 0 7) < 0 ∨ 48 ≤ (Int32.toNatClampNeg (S.1 0 7)) then none else
                (f_X4_readsAll ((kS (kS (kS S.1 0 (upd (S.1 0) 6 ((S.1 0 6) + 1))) 11 (upd (S.1 11) (Int32.toNatClampNeg (S.1 0 7)) v1)) 12 (upd (S.1 12) (Int32.toNatClampNeg (S.1 0 7)) (S.1 0 6))), S.2) v1 (4 * (S.1 0 7)) N_).bind fun v14 =>
                if (b2i v14.1) = 0 then
                  some (false, v14.2)
                else
                  (f_X4_next v14.2 N_).bind fun v15 =>
                  if v15 = 59 then
                    some (true, ((kS v14.2.1 0 (upd (v14.2.1 0) 6 ((v14.2.1 0 6) + 1))), v14.2.2))
                  else
                    some (false, v14.2)
              else
                if v1 = 117 then
                  if (S.1 0 7) < 0 ∨ 48 ≤ (Int32.toNatClampNeg (S.1 0 7)) then none else
                  if (S.1 0 7) < 0 ∨ 48 ≤ (Int32.toNatClampNeg (S.1 0 7)) then none else
                  (f_X4_readsAll ((kS (kS (kS S.1 0 (upd (S.1 0) 6 ((S.1 0 6) + 1))) 11 (upd (S.1 11) (Int32.toNatClampNeg (S.1 0 7)) v1)) 12 (upd (S.1 12) (Int32.toNatClampNeg (S.1 0 7)) (S.1 0 6))), S.2) v1 (4 * (S.1 0 7)) N_).bind fun v16 =>
                  if (b2i v16.1) = 0 then
                    some (false, v16.2)
                  else
                    (f_X4_next v16.2 N_).bind fun v17 =>
                    if v17 = 59 then
                      some (true, ((kS v16.2.1 0 (upd (v16.2.1 0) 6 ((v16.2.1 0 6) + 1))), v16.2.2))
                    else
                      some (false, v16.2)
                else
                  some (false, S)
set_option maxRecDepth 100000 in
set_option maxHeartbeats 4000000 in
theorem k_X4_statement (l : Launch) (g : gE) (b : Nat → Nat) (S : (Nat → Nat → Int32) × (Nat → Nat → Int64)) (N_ : Nat) (R_ : Bool × ((Nat → Nat → Int32) × (Nat → Nat → Int64))) (hR : f_X4_statement S N_ = some R_) : FnI l g yX4_statement wA_X4_statement { frames := 3, cells := 0, slots := 0, locals := 68 } [.ref (b 0)] (wM g b S) (b2i R_.1) (wM g b R_.2) := by
  refine fEntry (As := [.ref (b 0)]) (maxL := 2) (ret := (some .boolean)) (by decide) rfl [some (.ref (b 0)), none] (Nat.le_of_ble_eq_true rfl) (lvInB.to (lvInB.sm (lvInB.nn lvInB.nil))) ?_
  intro p e s m below meth c A C hr hlocks hname hA
  have C : Cx p s m _ c g A cX4_statement 2 wA_X4_statement RX4 := C
  rw [f_X4_statement] at hR
  refine g_aload_n C dX4_statement_0 rfl 1 rfl ?_
  obtain ⟨v1, hv1, hR⟩ := opt_b hR
  refine g_callIR C (rn_V C (k_X4_next l g b S N_ v1 hv1) (cwV 0 C.1.2.2.2.2 (gdV wl_221 wl_218 wl_219 wl_220 wl_5) rfl rfl rfl hd_X4_next ⟨Nat.le_of_ble_eq_true rfl, Nat.le_of_ble_eq_true rfl⟩) 0 rfl rfl _ rg_C rg_n rfl rfl (Nat.le_of_ble_eq_true rfl) ⟨Nat.zero_le _, Nat.zero_le _⟩ dX4_statement_1) 4 rfl ?_
  refine g_istore_n C dX4_statement_4 [_, _] (Nat.le_of_ble_eq_true rfl) rfl rfl 5 rfl ?_
  refine g_iload_n C dX4_statement_5 rfl 6 rfl ?_
  refine g_bipush C dX4_statement_6 106 bp_106 8 rfl ?_
  refine g_icmp_eq C dX4_statement_8 hR 55 11 (by decide) rfl (fun c_8 hR => ?_) (fun c_8 hR => ?_)
  · refine g_aload_n C dX4_statement_55 rfl 56 rfl ?_
    refine g_get (v := .ref (b 11)) C (hiC hiA_4) 0 rfl rfl 15 (by decide) (List.mem_cons_of_mem _ wl_76) rfl rfl dX4_statement_56 59 rfl ?_
    refine g_aload_n C dX4_statement_59 rfl 60 rfl ?_
    refine g_get (v := .int (S.1 0 7)) C (hiC hiA_4) 0 rfl rfl 20 (by decide) (List.mem_cons_of_mem _ wl_213) rfl rfl dX4_statement_60 63 rfl ?_
    refine g_iload_n C dX4_statement_63 rfl 64 rfl ?_
    obtain ⟨h_64, hR⟩ := opt_n hR
    refine g_iast (f := (S.1 11)) C 11 rfl h_64 dX4_statement_64 (wMr g b (S.1 0 0) (S.1 0 1) (S.1 0 2) (S.1 0 3) (S.1 0 4) (S.1 0 5) (S.1 0 6) (S.1 0 7) (S.1 0 8) (S.1 0 9) (S.1 0 10) (S.1 0 11) (S.1 0 12) (S.1 0 13) (S.1 0 14) (S.1 1) (S.1 2) (S.1 3) (S.1 4) (S.1 5) (S.1 6) (S.1 7) (S.1 8) (S.1 9) (S.1 10) (upd (S.1 11) (Int32.toNatClampNeg (S.1 0 7)) v1) (S.1 12) (S.1 13) (S.1 14) (S.1 15) (S.1 16) (S.2 0) (S.2 1) (S.2 2)) rfl 65 rfl ?_
    refine g_aload_n C dX4_statement_65 rfl 66 rfl ?_
    refine g_get (v := .ref (b 12)) C (hiC hiA_4) 0 rfl rfl 16 (by decide) (List.mem_cons_of_mem _ wl_77) rfl rfl dX4_statement_66 69 rfl ?_
    refine g_aload_n C dX4_statement_69 rfl 70 rfl ?_
    refine g_get (v := .int (S.1 0 7)) C (hiC hiA_4) 0 rfl rfl 20 (by decide) (List.mem_cons_of_mem _ wl_213) rfl rfl dX4_statement_70 73 rfl ?_
    refine g_aload_n C dX4_statement_73 rfl 74 rfl ?_
    refine g_get (v := .int (S.1 0 6)) C (hiC hiA_4) 0 rfl rfl 19 (by decide) (List.mem_cons_of_mem _ wl_212) rfl rfl dX4_statement_74 77 rfl ?_
    obtain ⟨h_77, hR⟩ := opt_n hR
    refine g_iast (f := (S.1 12)) C 12 rfl h_77 dX4_statement_77 (wMr g b (S.1 0 0) (S.1 0 1) (S.1 0 2) (S.1 0 3) (S.1 0 4) (S.1 0 5) (S.1 0 6) (S.1 0 7) (S.1 0 8) (S.1 0 9) (S.1 0 10) (S.1 0 11) (S.1 0 12) (S.1 0 13) (S.1 0 14) (S.1 1) (S.1 2) (S.1 3) (S.1 4) (S.1 5) (S.1 6) (S.1 7) (S.1 8) (S.1 9) (S.1 10) (upd (S.1 11) (Int32.toNatClampNeg (S.1 0 7)) v1) (upd (S.1 12) (Int32.toNatClampNeg (S.1 0 7)) (S.1 0 6)) (S.1 13) (S.1 14) (S.1 15) (S.1 16) (S.2 0) (S.2 1) (S.2 2)) rfl 78 rfl ?_
    refine g_aload_n C dX4_statement_78 rfl 79 rfl ?_
    refine g_dup C dX4_statement_79 rfl 80 rfl ?_
    refine g_get (v := .int (S.1 0 6)) C (hiC hiA_4) 0 rfl rfl 19 (by decide) (List.mem_cons_of_mem _ wl_212) rfl rfl dX4_statement_80 83 rfl ?_
    refine g_iconst C dX4_statement_83 1 ic_1 84 rfl ?_
    refine g_iadd C dX4_statement_84 85 rfl ?_
    refine g_put C (hiC hiA_4) tyX4 tyX4_ok nmX4 0 rfl rfl 19 (by decide) (List.mem_cons_of_mem _ wl_212) rfl rfl rfl rfl (Nat.le_of_ble_eq_true rfl) dX4_statement_85 (wMr g b (S.1 0 0) (S.1 0 1) (S.1 0 2) (S.1 0 3) (S.1 0 4) (S.1 0 5) ((S.1 0 6) + 1) (S.1 0 7) (S.1 0 8) (S.1 0 9) (S.1 0 10) (S.1 0 11) (S.1 0 12) (S.1 0 13) (S.1 0 14) (S.1 1) (S.1 2) (S.1 3) (S.1 4) (S.1 5) (S.1 6) (S.1 7) (S.1 8) (S.1 9) (S.1 10) (upd (S.1 11) (Int32.toNatClampNeg (S.1 0 7)) v1) (upd (S.1 12) (Int32.toNatClampNeg (S.1 0 7)) (S.1 0 6)) (S.1 13) (S.1 14) (S.1 15) (S.1 16) (S.2 0) (S.2 1) (S.2 2)) rfl 88 rfl ?_
    refine g_aload_n C dX4_statement_88 rfl 89 rfl ?_
    refine g_iload_n C dX4_statement_89 rfl 90 rfl ?_
    refine g_iconst C dX4_statement_90 4 ic_4 91 rfl ?_
    refine g_aload_n C dX4_statement_91 rfl 92 rfl ?_
    refine g_get (v := .int (S.1 0 7)) C (hiC hiA_4) 0 rfl rfl 20 (by decide) (List.mem_cons_of_mem _ wl_213) rfl rfl dX4_statement_92 95 rfl ?_
    refine g_imul C dX4_statement_95 96 rfl ?_
    obtain ⟨v2, hv2, hR⟩ := opt_b hR
    refine g_callI C (rn_V C (k_X4_readsAll l g b ((kS (kS (kS S.1 0 (upd (S.1 0) 6 ((S.1 0 6) + 1))) 11 (upd (S.1 11) (Int32.toNatClampNeg (S.1 0 7)) v1)) 12 (upd (S.1 12) (Int32.toNatClampNeg (S.1 0 7)) (S.1 0 6))), S.2) v1 (4 * (S.1 0 7)) N_ v2 hv2) (cwV 2 C.1.2.2.2.2 (gdV wl_225 wl_222 wl_223 wl_224 wl_5) rfl rfl rfl hd_X4_readsAll ⟨Nat.le_of_ble_eq_true rfl, Nat.le_of_ble_eq_true rfl⟩) 0 rfl rfl _ rg_C rg_n rfl rfl (Nat.le_of_ble_eq_true rfl) ⟨Nat.zero_le _, Nat.zero_le _⟩ dX4_statement_96) (wM g b v2.2) (rg_put (wM_len.trans wMr_len.symm)) (rg_len (wM_len.trans wMr_len.symm)) 99 rfl ?_
    refine g_if_eq C dX4_statement_99 hR 111 102 (by decide) rfl (fun c_99 hR => ?_) (fun c_99 hR => ?_)
    · refine g_iconst C dX4_statement_111 0 ic_0 112 rfl ?_
      obtain rfl := Option.some.inj hR
      exact g_zret C hr hlocks (by decide) hA rfl (by first | (dsimp only; done) | rfl) dX4_statement_112
    · refine g_aload_n C dX4_statement_102 rfl 103 rfl ?_
      obtain ⟨v3, hv3, hR⟩ := opt_b hR
      refine g_callIR C (rn_V C (k_X4_next l g b v2.2 N_ v3 hv3) (cwV 0 C.1.2.2.2.2 (gdV wl_221 wl_218 wl_219 wl_220 wl_5) rfl rfl rfl hd_X4_next ⟨Nat.le_of_ble_eq_true rfl, Nat.le_of_ble_eq_true rfl⟩) 0 rfl rfl _ rg_C rg_n rfl rfl (Nat.le_of_ble_eq_true rfl) ⟨Nat.zero_le _, Nat.zero_le _⟩ dX4_statement_103) 106 rfl ?_
      refine g_bipush C dX4_statement_106 59 bp_59 108 rfl ?_
      refine g_icmp_eq C dX4_statement_108 hR 113 111 (by decide) rfl (fun c_108 hR => ?_) (fun c_108 hR => ?_)
      · refine g_aload_n C dX4_statement_113 rfl 114 rfl ?_
        refine g_dup C dX4_statement_114 rfl 115 rfl ?_
        refine g_get (v := .int (v2.2.1 0 6)) C (hiC hiA_4) 0 rfl rfl 19 (by decide) (List.mem_cons_of_mem _ wl_212) rfl rfl dX4_statement_115 118 rfl ?_
        refine g_iconst C dX4_statement_118 1 ic_1 119 rfl ?_
        refine g_iadd C dX4_statement_119 120 rfl ?_
        refine g_put C (hiC hiA_4) tyX4 tyX4_ok nmX4 0 rfl rfl 19 (by decide) (List.mem_cons_of_mem _ wl_212) rfl rfl rfl rfl (Nat.le_of_ble_eq_true rfl) dX4_statement_120 (wMr g b (v2.2.1 0 0) (v2.2.1 0 1) (v2.2.1 0 2) (v2.2.1 0 3) (v2.2.1 0 4) (v2.2.1 0 5) ((v2.2.1 0 6) + 1) (v2.2.1 0 7) (v2.2.1 0 8) (v2.2.1 0 9) (v2.2.1 0 10) (v2.2.1 0 11) (v2.2.1 0 12) (v2.2.1 0 13) (v2.2.1 0 14) (v2.2.1 1) (v2.2.1 2) (v2.2.1 3) (v2.2.1 4) (v2.2.1 5) (v2.2.1 6) (v2.2.1 7) (v2.2.1 8) (v2.2.1 9) (v2.2.1 10) (v2.2.1 11) (v2.2.1 12) (v2.2.1 13) (v2.2.1 14) (v2.2.1 15) (v2.2.1 16) (v2.2.2 0) (v2.2.2 1) (v2.2.2 2)) rfl 123 rfl ?_
        refine g_iconst C dX4_statement_123 1 ic_1 124 rfl ?_
        obtain rfl := Option.some.inj hR
        exact g_zret C hr hlocks (by decide) hA rfl (by first | (dsimp only; done) | rfl) dX4_statement_124
      · refine g_iconst C dX4_statement_111 0 ic_0 112 rfl ?_
        obtain rfl := Option.some.inj hR
        exact g_zret C hr hlocks (by decide) hA rfl (by first | (dsimp only; done) | rfl) dX4_statement_112
  · refine g_iload_n C dX4_statement_11 rfl 12 rfl ?_
    refine g_bipush C dX4_statement_12 99 bp_99 14 rfl ?_
    refine g_icmp_eq C dX4_statement_14 hR 55 17 (by decide) rfl (fun c_14 hR => ?_) (fun c_14 hR => ?_)
    · refine g_aload_n C dX4_statement_55 rfl 56 rfl ?_
      refine g_get (v := .ref (b 11)) C (hiC hiA_4) 0 rfl rfl 15 (by decide) (List.mem_cons_of_mem _ wl_76) rfl rfl dX4_statement_56 59 rfl ?_
      refine g_aload_n C dX4_statement_59 rfl 60 rfl ?_
      refine g_get (v := .int (S.1 0 7)) C (hiC hiA_4) 0 rfl rfl 20 (by decide) (List.mem_cons_of_mem _ wl_213) rfl rfl dX4_statement_60 63 rfl ?_
      refine g_iload_n C dX4_statement_63 rfl 64 rfl ?_
      obtain ⟨h_64, hR⟩ := opt_n hR
      refine g_iast (f := (S.1 11)) C 11 rfl h_64 dX4_statement_64 (wMr g b (S.1 0 0) (S.1 0 1) (S.1 0 2) (S.1 0 3) (S.1 0 4) (S.1 0 5) (S.1 0 6) (S.1 0 7) (S.1 0 8) (S.1 0 9) (S.1 0 10) (S.1 0 11) (S.1 0 12) (S.1 0 13) (S.1 0 14) (S.1 1) (S.1 2) (S.1 3) (S.1 4) (S.1 5) (S.1 6) (S.1 7) (S.1 8) (S.1 9) (S.1 10) (upd (S.1 11) (Int32.toNatClampNeg (S.1 0 7)) v1) (S.1 12) (S.1 13) (S.1 14) (S.1 15) (S.1 16) (S.2 0) (S.2 1) (S.2 2)) rfl 65 rfl ?_
      refine g_aload_n C dX4_statement_65 rfl 66 rfl ?_
      refine g_get (v := .ref (b 12)) C (hiC hiA_4) 0 rfl rfl 16 (by decide) (List.mem_cons_of_mem _ wl_77) rfl rfl dX4_statement_66 69 rfl ?_
      refine g_aload_n C dX4_statement_69 rfl 70 rfl ?_
      refine g_get (v := .int (S.1 0 7)) C (hiC hiA_4) 0 rfl rfl 20 (by decide) (List.mem_cons_of_mem _ wl_213) rfl rfl dX4_statement_70 73 rfl ?_
      refine g_aload_n C dX4_statement_73 rfl 74 rfl ?_
      refine g_get (v := .int (S.1 0 6)) C (hiC hiA_4) 0 rfl rfl 19 (by decide) (List.mem_cons_of_mem _ wl_212) rfl rfl dX4_statement_74 77 rfl ?_
      obtain ⟨h_77, hR⟩ := opt_n hR
      refine g_iast (f := (S.1 12)) C 12 rfl h_77 dX4_statement_77 (wMr g b (S.1 0 0) (S.1 0 1) (S.1 0 2) (S.1 0 3) (S.1 0 4) (S.1 0 5) (S.1 0 6) (S.1 0 7) (S.1 0 8) (S.1 0 9) (S.1 0 10) (S.1 0 11) (S.1 0 12) (S.1 0 13) (S.1 0 14) (S.1 1) (S.1 2) (S.1 3) (S.1 4) (S.1 5) (S.1 6) (S.1 7) (S.1 8) (S.1 9) (S.1 10) (upd (S.1 11) (Int32.toNatClampNeg (S.1 0 7)) v1) (upd (S.1 12) (Int32.toNatClampNeg (S.1 0 7)) (S.1 0 6)) (S.1 13) (S.1 14) (S.1 15) (S.1 16) (S.2 0) (S.2 1) (S.2 2)) rfl 78 rfl ?_
      refine g_aload_n C dX4_statement_78 rfl 79 rfl ?_
      refine g_dup C dX4_statement_79 rfl 80 rfl ?_
      refine g_get (v := .int (S.1 0 6)) C (hiC hiA_4) 0 rfl rfl 19 (by decide) (List.mem_cons_of_mem _ wl_212) rfl rfl dX4_statement_80 83 rfl ?_
      refine g_iconst C dX4_statement_83 1 ic_1 84 rfl ?_
      refine g_iadd C dX4_statement_84 85 rfl ?_
      refine g_put C (hiC hiA_4) tyX4 tyX4_ok nmX4 0 rfl rfl 19 (by decide) (List.mem_cons_of_mem _ wl_212) rfl rfl rfl rfl (Nat.le_of_ble_eq_true rfl) dX4_statement_85 (wMr g b (S.1 0 0) (S.1 0 1) (S.1 0 2) (S.1 0 3) (S.1 0 4) (S.1 0 5) ((S.1 0 6) + 1) (S.1 0 7) (S.1 0 8) (S.1 0 9) (S.1 0 10) (S.1 0 11) (S.1 0 12) (S.1 0 13) (S.1 0 14) (S.1 1) (S.1 2) (S.1 3) (S.1 4) (S.1 5) (S.1 6) (S.1 7) (S.1 8) (S.1 9) (S.1 10) (upd (S.1 11) (Int32.toNatClampNeg (S.1 0 7)) v1) (upd (S.1 12) (Int32.toNatClampNeg (S.1 0 7)) (S.1 0 6)) (S.1 13) (S.1 14) (S.1 15) (S.1 16) (S.2 0) (S.2 1) (S.2 2)) rfl 88 rfl ?_
      refine g_aload_n C dX4_statement_88 rfl 89 rfl ?_
      refine g_iload_n C dX4_statement_89 rfl 90 rfl ?_
      refine g_iconst C dX4_statement_90 4 ic_4 91 rfl ?_
      refine g_aload_n C dX4_statement_91 rfl 92 rfl ?_
      refine g_get (v := .int (S.1 0 7)) C (hiC hiA_4) 0 rfl rfl 20 (by decide) (List.mem_cons_of_mem _ wl_213) rfl rfl dX4_statement_92 95 rfl ?_
      refine g_imul C dX4_statement_95 96 rfl ?_
      obtain ⟨v4, hv4, hR⟩ := opt_b hR
      refine g_callI C (rn_V C (k_X4_readsAll l g b ((kS (kS (kS S.1 0 (upd (S.1 0) 6 ((S.1 0 6) + 1))) 11 (upd (S.1 11) (Int32.toNatClampNeg (S.1 0 7)) v1)) 12 (upd (S.1 12) (Int32.toNatClampNeg (S.1 0 7)) (S.1 0 6))), S.2) v1 (4 * (S.1 0 7)) N_ v4 hv4) (cwV 2 C.1.2.2.2.2 (gdV wl_225 wl_222 wl_223 wl_224 wl_5) rfl rfl rfl hd_X4_readsAll ⟨Nat.le_of_ble_eq_true rfl, Nat.le_of_ble_eq_true rfl⟩) 0 rfl rfl _ rg_C rg_n rfl rfl (Nat.le_of_ble_eq_true rfl) ⟨Nat.zero_le _, Nat.zero_le _⟩ dX4_statement_96) (wM g b v4.2) (rg_put (wM_len.trans wMr_len.symm)) (rg_len (wM_len.trans wMr_len.symm)) 99 rfl ?_
      refine g_if_eq C dX4_statement_99 hR 111 102 (by decide) rfl (fun c_99 hR => ?_) (fun c_99 hR => ?_)
      · refine g_iconst C dX4_statement_111 0 ic_0 112 rfl ?_
        obtain rfl := Option.some.inj hR
        exact g_zret C hr hlocks (by decide) hA rfl (by first | (dsimp only; done) | rfl) dX4_statement_112
      · refine g_aload_n C dX4_statement_102 rfl 103 rfl ?_
        obtain ⟨v5, hv5, hR⟩ := opt_b hR
        refine g_callIR C (rn_V C (k_X4_next l g b v4.2 N_ v5 hv5) (cwV 0 C.1.2.2.2.2 (gdV wl_221 wl_218 wl_219 wl_220 wl_5) rfl rfl rfl hd_X4_next ⟨Nat.le_of_ble_eq_true rfl, Nat.le_of_ble_eq_true rfl⟩) 0 rfl rfl _ rg_C rg_n rfl rfl (Nat.le_of_ble_eq_true rfl) ⟨Nat.zero_le _, Nat.zero_le _⟩ dX4_statement_103) 106 rfl ?_
        refine g_bipush C dX4_statement_106 59 bp_59 108 rfl ?_
        refine g_icmp_eq C dX4_statement_108 hR 113 111 (by decide) rfl (fun c_108 hR => ?_) (fun c_108 hR => ?_)
        · refine g_aload_n C dX4_statement_113 rfl 114 rfl ?_
          refine g_dup C dX4_statement_114 rfl 115 rfl ?_
          refine g_get (v := .int (v4.2.1 0 6)) C (hiC hiA_4) 0 rfl rfl 19 (by decide) (List.mem_cons_of_mem _ wl_212) rfl rfl dX4_statement_115 118 rfl ?_
          refine g_iconst C dX4_statement_118 1 ic_1 119 rfl ?_
          refine g_iadd C dX4_statement_119 120 rfl ?_
          refine g_put C (hiC hiA_4) tyX4 tyX4_ok nmX4 0 rfl rfl 19 (by decide) (List.mem_cons_of_mem _ wl_212) rfl rfl rfl rfl (Nat.le_of_ble_eq_true rfl) dX4_statement_120 (wMr g b (v4.2.1 0 0) (v4.2.1 0 1) (v4.2.1 0 2) (v4.2.1 0 3) (v4.2.1 0 4) (v4.2.1 0 5) ((v4.2.1 0 6) + 1) (v4.2.1 0 7) (v4.2.1 0 8) (v4.2.1 0 9) (v4.2.1 0 10) (v4.2.1 0 11) (v4.2.1 0 12) (v4.2.1 0 13) (v4.2.1 0 14) (v4.2.1 1) (v4.2.1 2) (v4.2.1 3) (v4.2.1 4) (v4.2.1 5) (v4.2.1 6) (v4.2.1 7) (v4.2.1 8) (v4.2.1 9) (v4.2.1 10) (v4.2.1 11) (v4.2.1 12) (v4.2.1 13) (v4.2.1 14) (v4.2.1 15) (v4.2.1 16) (v4.2.2 0) (v4.2.2 1) (v4.2.2 2)) rfl 123 rfl ?_
          refine g_iconst C dX4_statement_123 1 ic_1 124 rfl ?_
          obtain rfl := Option.some.inj hR
          exact g_zret C hr hlocks (by decide) hA rfl (by first | (dsimp only; done) | rfl) dX4_statement_124
        · refine g_iconst C dX4_statement_111 0 ic_0 112 rfl ?_
          obtain rfl := Option.some.inj hR
          exact g_zret C hr hlocks (by decide) hA rfl (by first | (dsimp only; done) | rfl) dX4_statement_112
    · refine g_iload_n C dX4_statement_17 rfl 18 rfl ?_
      refine g_bipush C dX4_statement_18 119 bp_119 20 rfl ?_
      refine g_icmp_eq C dX4_statement_20 hR 55 23 (by decide) rfl (fun c_20 hR => ?_) (fun c_20 hR => ?_)
      · refine g_aload_n C dX4_statement_55 rfl 56 rfl ?_
        refine g_get (v := .ref (b 11)) C (hiC hiA_4) 0 rfl rfl 15 (by decide) (List.mem_cons_of_mem _ wl_76) rfl rfl dX4_statement_56 59 rfl ?_
        refine g_aload_n C dX4_statement_59 rfl 60 rfl ?_
        refine g_get (v := .int (S.1 0 7)) C (hiC hiA_4) 0 rfl rfl 20 (by decide) (List.mem_cons_of_mem _ wl_213) rfl rfl dX4_statement_60 63 rfl ?_
        refine g_iload_n C dX4_statement_63 rfl 64 rfl ?_
        obtain ⟨h_64, hR⟩ := opt_n hR
        refine g_iast (f := (S.1 11)) C 11 rfl h_64 dX4_statement_64 (wMr g b (S.1 0 0) (S.1 0 1) (S.1 0 2) (S.1 0 3) (S.1 0 4) (S.1 0 5) (S.1 0 6) (S.1 0 7) (S.1 0 8) (S.1 0 9) (S.1 0 10) (S.1 0 11) (S.1 0 12) (S.1 0 13) (S.1 0 14) (S.1 1) (S.1 2) (S.1 3) (S.1 4) (S.1 5) (S.1 6) (S.1 7) (S.1 8) (S.1 9) (S.1 10) (upd (S.1 11) (Int32.toNatClampNeg (S.1 0 7)) v1) (S.1 12) (S.1 13) (S.1 14) (S.1 15) (S.1 16) (S.2 0) (S.2 1) (S.2 2)) rfl 65 rfl ?_
        refine g_aload_n C dX4_statement_65 rfl 66 rfl ?_
        refine g_get (v := .ref (b 12)) C (hiC hiA_4) 0 rfl rfl 16 (by decide) (List.mem_cons_of_mem _ wl_77) rfl rfl dX4_statement_66 69 rfl ?_
        refine g_aload_n C dX4_statement_69 rfl 70 rfl ?_
        refine g_get (v := .int (S.1 0 7)) C (hiC hiA_4) 0 rfl rfl 20 (by decide) (List.mem_cons_of_mem _ wl_213) rfl rfl dX4_statement_70 73 rfl ?_
        refine g_aload_n C dX4_statement_73 rfl 74 rfl ?_
        refine g_get (v := .int (S.1 0 6)) C (hiC hiA_4) 0 rfl rfl 19 (by decide) (List.mem_cons_of_mem _ wl_212) rfl rfl dX4_statement_74 77 rfl ?_
        obtain ⟨h_77, hR⟩ := opt_n hR
        refine g_iast (f := (S.1 12)) C 12 rfl h_77 dX4_statement_77 (wMr g b (S.1 0 0) (S.1 0 1) (S.1 0 2) (S.1 0 3) (S.1 0 4) (S.1 0 5) (S.1 0 6) (S.1 0 7) (S.1 0 8) (S.1 0 9) (S.1 0 10) (S.1 0 11) (S.1 0 12) (S.1 0 13) (S.1 0 14) (S.1 1) (S.1 2) (S.1 3) (S.1 4) (S.1 5) (S.1 6) (S.1 7) (S.1 8) (S.1 9) (S.1 10) (upd (S.1 11) (Int32.toNatClampNeg (S.1 0 7)) v1) (upd (S.1 12) (Int32.toNatClampNeg (S.1 0 7)) (S.1 0 6)) (S.1 13) (S.1 14) (S.1 15) (S.1 16) (S.2 0) (S.2 1) (S.2 2)) rfl 78 rfl ?_
        refine g_aload_n C dX4_statement_78 rfl 79 rfl ?_
        refine g_dup C dX4_statement_79 rfl 80 rfl ?_
        refine g_get (v := .int (S.1 0 6)) C (hiC hiA_4) 0 rfl rfl 19 (by decide) (List.mem_cons_of_mem _ wl_212) rfl rfl dX4_statement_80 83 rfl ?_
        refine g_iconst C dX4_statement_83 1 ic_1 84 rfl ?_
        refine g_iadd C dX4_statement_84 85 rfl ?_
        refine g_put C (hiC hiA_4) tyX4 tyX4_ok nmX4 0 rfl rfl 19 (by decide) (List.mem_cons_of_mem _ wl_212) rfl rfl rfl rfl (Nat.le_of_ble_eq_true rfl) dX4_statement_85 (wMr g b (S.1 0 0) (S.1 0 1) (S.1 0 2) (S.1 0 3) (S.1 0 4) (S.1 0 5) ((S.1 0 6) + 1) (S.1 0 7) (S.1 0 8) (S.1 0 9) (S.1 0 10) (S.1 0 11) (S.1 0 12) (S.1 0 13) (S.1 0 14) (S.1 1) (S.1 2) (S.1 3) (S.1 4) (S.1 5) (S.1 6) (S.1 7) (S.1 8) (S.1 9) (S.1 10) (upd (S.1 11) (Int32.toNatClampNeg (S.1 0 7)) v1) (upd (S.1 12) (Int32.toNatClampNeg (S.1 0 7)) (S.1 0 6)) (S.1 13) (S.1 14) (S.1 15) (S.1 16) (S.2 0) (S.2 1) (S.2 2)) rfl 88 rfl ?_
        refine g_aload_n C dX4_statement_88 rfl 89 rfl ?_
        refine g_iload_n C dX4_statement_89 rfl 90 rfl ?_
        refine g_iconst C dX4_statement_90 4 ic_4 91 rfl ?_
        refine g_aload_n C dX4_statement_91 rfl 92 rfl ?_
        refine g_get (v := .int (S.1 0 7)) C (hiC hiA_4) 0 rfl rfl 20 (by decide) (List.mem_cons_of_mem _ wl_213) rfl rfl dX4_statement_92 95 rfl ?_
        refine g_imul C dX4_statement_95 96 rfl ?_
        obtain ⟨v6, hv6, hR⟩ := opt_b hR
        refine g_callI C (rn_V C (k_X4_readsAll l g b ((kS (kS (kS S.1 0 (upd (S.1 0) 6 ((S.1 0 6) + 1))) 11 (upd (S.1 11) (Int32.toNatClampNeg (S.1 0 7)) v1)) 12 (upd (S.1 12) (Int32.toNatClampNeg (S.1 0 7)) (S.1 0 6))), S.2) v1 (4 * (S.1 0 7)) N_ v6 hv6) (cwV 2 C.1.2.2.2.2 (gdV wl_225 wl_222 wl_223 wl_224 wl_5) rfl rfl rfl hd_X4_readsAll ⟨Nat.le_of_ble_eq_true rfl, Nat.le_of_ble_eq_true rfl⟩) 0 rfl rfl _ rg_C rg_n rfl rfl (Nat.le_of_ble_eq_true rfl) ⟨Nat.zero_le _, Nat.zero_le _⟩ dX4_statement_96) (wM g b v6.2) (rg_put (wM_len.trans wMr_len.symm)) (rg_len (wM_len.trans wMr_len.symm)) 99 rfl ?_
        refine g_if_eq C dX4_statement_99 hR 111 102 (by decide) rfl (fun c_99 hR => ?_) (fun c_99 hR => ?_)
        · refine g_iconst C dX4_statement_111 0 ic_0 112 rfl ?_
          obtain rfl := Option.some.inj hR
          exact g_zret C hr hlocks (by decide) hA rfl (by first | (dsimp only; done) | rfl) dX4_statement_112
        · refine g_aload_n C dX4_statement_102 rfl 103 rfl ?_
          obtain ⟨v7, hv7, hR⟩ := opt_b hR
          refine g_callIR C (rn_V C (k_X4_next l g b v6.2 N_ v7 hv7) (cwV 0 C.1.2.2.2.2 (gdV wl_221 wl_218 wl_219 wl_220 wl_5) rfl rfl rfl hd_X4_next ⟨Nat.le_of_ble_eq_true rfl, Nat.le_of_ble_eq_true rfl⟩) 0 rfl rfl _ rg_C rg_n rfl rfl (Nat.le_of_ble_eq_true rfl) ⟨Nat.zero_le _, Nat.zero_le _⟩ dX4_statement_103) 106 rfl ?_
          refine g_bipush C dX4_statement_106 59 bp_59 108 rfl ?_
          refine g_icmp_eq C dX4_statement_108 hR 113 111 (by decide) rfl (fun c_108 hR => ?_) (fun c_108 hR => ?_)
          · refine g_aload_n C dX4_statement_113 rfl 114 rfl ?_
            refine g_dup C dX4_statement_114 rfl 115 rfl ?_
            refine g_get (v := .int (v6.2.1 0 6)) C (hiC hiA_4) 0 rfl rfl 19 (by decide) (List.mem_cons_of_mem _ wl_212) rfl rfl dX4_statement_115 118 rfl ?_
            refine g_iconst C dX4_statement_118 1 ic_1 119 rfl ?_
            refine g_iadd C dX4_statement_119 120 rfl ?_
            refine g_put C (hiC hiA_4) tyX4 tyX4_ok nmX4 0 rfl rfl 19 (by decide) (List.mem_cons_of_mem _ wl_212) rfl rfl rfl rfl (Nat.le_of_ble_eq_true rfl) dX4_statement_120 (wMr g b (v6.2.1 0 0) (v6.2.1 0 1) (v6.2.1 0 2) (v6.2.1 0 3) (v6.2.1 0 4) (v6.2.1 0 5) ((v6.2.1 0 6) + 1) (v6.2.1 0 7) (v6.2.1 0 8) (v6.2.1 0 9) (v6.2.1 0 10) (v6.2.1 0 11) (v6.2.1 0 12) (v6.2.1 0 13) (v6.2.1 0 14) (v6.2.1 1) (v6.2.1 2) (v6.2.1 3) (v6.2.1 4) (v6.2.1 5) (v6.2.1 6) (v6.2.1 7) (v6.2.1 8) (v6.2.1 9) (v6.2.1 10) (v6.2.1 11) (v6.2.1 12) (v6.2.1 13) (v6.2.1 14) (v6.2.1 15) (v6.2.1 16) (v6.2.2 0) (v6.2.2 1) (v6.2.2 2)) rfl 123 rfl ?_
            refine g_iconst C dX4_statement_123 1 ic_1 124 rfl ?_
            obtain rfl := Option.some.inj hR
            exact g_zret C hr hlocks (by decide) hA rfl (by first | (dsimp only; done) | rfl) dX4_statement_124
          · refine g_iconst C dX4_statement_111 0 ic_0 112 rfl ?_
            obtain rfl := Option.some.inj hR
            exact g_zret C hr hlocks (by decide) hA rfl (by first | (dsimp only; done) | rfl) dX4_statement_112
      · refine g_iload_n C dX4_statement_23 rfl 24 rfl ?_
        refine g_bipush C dX4_statement_24 116 bp_116 26 rfl ?_
        refine g_icmp_eq C dX4_statement_26 hR 55 29 (by decide) rfl (fun c_26 hR => ?_) (fun c_26 hR => ?_)
        · refine g_aload_n C dX4_statement_55 rfl 56 rfl ?_
          refine g_get (v := .ref (b 11)) C (hiC hiA_4) 0 rfl rfl 15 (by decide) (List.mem_cons_of_mem _ wl_76) rfl rfl dX4_statement_56 59 rfl ?_
          refine g_aload_n C dX4_statement_59 rfl 60 rfl ?_
          refine g_get (v := .int (S.1 0 7)) C (hiC hiA_4) 0 rfl rfl 20 (by decide) (List.mem_cons_of_mem _ wl_213) rfl rfl dX4_statement_60 63 rfl ?_
          refine g_iload_n C dX4_statement_63 rfl 64 rfl ?_
          obtain ⟨h_64, hR⟩ := opt_n hR
          refine g_iast (f := (S.1 11)) C 11 rfl h_64 dX4_statement_64 (wMr g b (S.1 0 0) (S.1 0 1) (S.1 0 2) (S.1 0 3) (S.1 0 4) (S.1 0 5) (S.1 0 6) (S.1 0 7) (S.1 0 8) (S.1 0 9) (S.1 0 10) (S.1 0 11) (S.1 0 12) (S.1 0 13) (S.1 0 14) (S.1 1) (S.1 2) (S.1 3) (S.1 4) (S.1 5) (S.1 6) (S.1 7) (S.1 8) (S.1 9) (S.1 10) (upd (S.1 11) (Int32.toNatClampNeg (S.1 0 7)) v1) (S.1 12) (S.1 13) (S.1 14) (S.1 15) (S.1 16) (S.2 0) (S.2 1) (S.2 2)) rfl 65 rfl ?_
          refine g_aload_n C dX4_statement_65 rfl 66 rfl ?_
          refine g_get (v := .ref (b 12)) C (hiC hiA_4) 0 rfl rfl 16 (by decide) (List.mem_cons_of_mem _ wl_77) rfl rfl dX4_statement_66 69 rfl ?_
          refine g_aload_n C dX4_statement_69 rfl 70 rfl ?_
          refine g_get (v := .int (S.1 0 7)) C (hiC hiA_4) 0 rfl rfl 20 (by decide) (List.mem_cons_of_mem _ wl_213) rfl rfl dX4_statement_70 73 rfl ?_
          refine g_aload_n C dX4_statement_73 rfl 74 rfl ?_
          refine g_get (v := .int (S.1 0 6)) C (hiC hiA_4) 0 rfl rfl 19 (by decide) (List.mem_cons_of_mem _ wl_212) rfl rfl dX4_statement_74 77 rfl ?_
          obtain ⟨h_77, hR⟩ := opt_n hR
          refine g_iast (f := (S.1 12)) C 12 rfl h_77 dX4_statement_77 (wMr g b (S.1 0 0) (S.1 0 1) (S.1 0 2) (S.1 0 3) (S.1 0 4) (S.1 0 5) (S.1 0 6) (S.1 0 7) (S.1 0 8) (S.1 0 9) (S.1 0 10) (S.1 0 11) (S.1 0 12) (S.1 0 13) (S.1 0 14) (S.1 1) (S.1 2) (S.1 3) (S.1 4) (S.1 5) (S.1 6) (S.1 7) (S.1 8) (S.1 9) (S.1 10) (upd (S.1 11) (Int32.toNatClampNeg (S.1 0 7)) v1) (upd (S.1 12) (Int32.toNatClampNeg (S.1 0 7)) (S.1 0 6)) (S.1 13) (S.1 14) (S.1 15) (S.1 16) (S.2 0) (S.2 1) (S.2 2)) rfl 78 rfl ?_
          refine g_aload_n C dX4_statement_78 rfl 79 rfl ?_
          refine g_dup C dX4_statement_79 rfl 80 rfl ?_
          refine g_get (v := .int (S.1 0 6)) C (hiC hiA_4) 0 rfl rfl 19 (by decide) (List.mem_cons_of_mem _ wl_212) rfl rfl dX4_statement_80 83 rfl ?_
          refine g_iconst C dX4_statement_83 1 ic_1 84 rfl ?_
          refine g_iadd C dX4_statement_84 85 rfl ?_
          refine g_put C (hiC hiA_4) tyX4 tyX4_ok nmX4 0 rfl rfl 19 (by decide) (List.mem_cons_of_mem _ wl_212) rfl rfl rfl rfl (Nat.le_of_ble_eq_true rfl) dX4_statement_85 (wMr g b (S.1 0 0) (S.1 0 1) (S.1 0 2) (S.1 0 3) (S.1 0 4) (S.1 0 5) ((S.1 0 6) + 1) (S.1 0 7) (S.1 0 8) (S.1 0 9) (S.1 0 10) (S.1 0 11) (S.1 0 12) (S.1 0 13) (S.1 0 14) (S.1 1) (S.1 2) (S.1 3) (S.1 4) (S.1 5) (S.1 6) (S.1 7) (S.1 8) (S.1 9) (S.1 10) (upd (S.1 11) (Int32.toNatClampNeg (S.1 0 7)) v1) (upd (S.1 12) (Int32.toNatClampNeg (S.1 0 7)) (S.1 0 6)) (S.1 13) (S.1 14) (S.1 15) (S.1 16) (S.2 0) (S.2 1) (S.2 2)) rfl 88 rfl ?_
          refine g_aload_n C dX4_statement_88 rfl 89 rfl ?_
          refine g_iload_n C dX4_statement_89 rfl 90 rfl ?_
          refine g_iconst C dX4_statement_90 4 ic_4 91 rfl ?_
          refine g_aload_n C dX4_statement_91 rfl 92 rfl ?_
          refine g_get (v := .int (S.1 0 7)) C (hiC hiA_4) 0 rfl rfl 20 (by decide) (List.mem_cons_of_mem _ wl_213) rfl rfl dX4_statement_92 95 rfl ?_
          refine g_imul C dX4_statement_95 96 rfl ?_
          obtain ⟨v8, hv8, hR⟩ := opt_b hR
          refine g_callI C (rn_V C (k_X4_readsAll l g b ((kS (kS (kS S.1 0 (upd (S.1 0) 6 ((S.1 0 6) + 1))) 11 (upd (S.1 11) (Int32.toNatClampNeg (S.1 0 7)) v1)) 12 (upd (S.1 12) (Int32.toNatClampNeg (S.1 0 7)) (S.1 0 6))), S.2) v1 (4 * (S.1 0 7)) N_ v8 hv8) (cwV 2 C.1.2.2.2.2 (gdV wl_225 wl_222 wl_223 wl_224 wl_5) rfl rfl rfl hd_X4_readsAll ⟨Nat.le_of_ble_eq_true rfl, Nat.le_of_ble_eq_true rfl⟩) 0 rfl rfl _ rg_C rg_n rfl rfl (Nat.le_of_ble_eq_true rfl) ⟨Nat.zero_le _, Nat.zero_le _⟩ dX4_statement_96) (wM g b v8.2) (rg_put (wM_len.trans wMr_len.symm)) (rg_len (wM_len.trans wMr_len.symm)) 99 rfl ?_
          refine g_if_eq C dX4_statement_99 hR 111 102 (by decide) rfl (fun c_99 hR => ?_) (fun c_99 hR => ?_)
          · refine g_iconst C dX4_statement_111 0 ic_0 112 rfl ?_
            obtain rfl := Option.some.inj hR
            exact g_zret C hr hlocks (by decide) hA rfl (by first | (dsimp only; done) | rfl) dX4_statement_112
          · refine g_aload_n C dX4_statement_102 rfl 103 rfl ?_
            obtain ⟨v9, hv9, hR⟩ := opt_b hR
            refine g_callIR C (rn_V C (k_X4_next l g b v8.2 N_ v9 hv9) (cwV 0 C.1.2.2.2.2 (gdV wl_221 wl_218 wl_219 wl_220 wl_5) rfl rfl rfl hd_X4_next ⟨Nat.le_of_ble_eq_true rfl, Nat.le_of_ble_eq_true rfl⟩) 0 rfl rfl _ rg_C rg_n rfl rfl (Nat.le_of_ble_eq_true rfl) ⟨Nat.zero_le _, Nat.zero_le _⟩ dX4_statement_103) 106 rfl ?_
            refine g_bipush C dX4_statement_106 59 bp_59 108 rfl ?_
            refine g_icmp_eq C dX4_statement_108 hR 113 111 (by decide) rfl (fun c_108 hR => ?_) (fun c_108 hR => ?_)
            · refine g_aload_n C dX4_statement_113 rfl 114 rfl ?_
              refine g_dup C dX4_statement_114 rfl 115 rfl ?_
              refine g_get (v := .int (v8.2.1 0 6)) C (hiC hiA_4) 0 rfl rfl 19 (by decide) (List.mem_cons_of_mem _ wl_212) rfl rfl dX4_statement_115 118 rfl ?_
              refine g_iconst C dX4_statement_118 1 ic_1 119 rfl ?_
              refine g_iadd C dX4_statement_119 120 rfl ?_
              refine g_put C (hiC hiA_4) tyX4 tyX4_ok nmX4 0 rfl rfl 19 (by decide) (List.mem_cons_of_mem _ wl_212) rfl rfl rfl rfl (Nat.le_of_ble_eq_true rfl) dX4_statement_120 (wMr g b (v8.2.1 0 0) (v8.2.1 0 1) (v8.2.1 0 2) (v8.2.1 0 3) (v8.2.1 0 4) (v8.2.1 0 5) ((v8.2.1 0 6) + 1) (v8.2.1 0 7) (v8.2.1 0 8) (v8.2.1 0 9) (v8.2.1 0 10) (v8.2.1 0 11) (v8.2.1 0 12) (v8.2.1 0 13) (v8.2.1 0 14) (v8.2.1 1) (v8.2.1 2) (v8.2.1 3) (v8.2.1 4) (v8.2.1 5) (v8.2.1 6) (v8.2.1 7) (v8.2.1 8) (v8.2.1 9) (v8.2.1 10) (v8.2.1 11) (v8.2.1 12) (v8.2.1 13) (v8.2.1 14) (v8.2.1 15) (v8.2.1 16) (v8.2.2 0) (v8.2.2 1) (v8.2.2 2)) rfl 123 rfl ?_
              refine g_iconst C dX4_statement_123 1 ic_1 124 rfl ?_
              obtain rfl := Option.some.inj hR
              exact g_zret C hr hlocks (by decide) hA rfl (by first | (dsimp only; done) | rfl) dX4_statement_124
            · refine g_iconst C dX4_statement_111 0 ic_0 112 rfl ?_
              obtain rfl := Option.some.inj hR
              exact g_zret C hr hlocks (by decide) hA rfl (by first | (dsimp only; done) | rfl) dX4_statement_112
        · refine g_iload_n C dX4_statement_29 rfl 30 rfl ?_
          refine g_bipush C dX4_statement_30 112 bp_112 32 rfl ?_
          refine g_icmp_eq C dX4_statement_32 hR 55 35 (by decide) rfl (fun c_32 hR => ?_) (fun c_32 hR => ?_)
          · refine g_aload_n C dX4_statement_55 rfl 56 rfl ?_
            refine g_get (v := .ref (b 11)) C (hiC hiA_4) 0 rfl rfl 15 (by decide) (List.mem_cons_of_mem _ wl_76) rfl rfl dX4_statement_56 59 rfl ?_
            refine g_aload_n C dX4_statement_59 rfl 60 rfl ?_
            refine g_get (v := .int (S.1 0 7)) C (hiC hiA_4) 0 rfl rfl 20 (by decide) (List.mem_cons_of_mem _ wl_213) rfl rfl dX4_statement_60 63 rfl ?_
            refine g_iload_n C dX4_statement_63 rfl 64 rfl ?_
            obtain ⟨h_64, hR⟩ := opt_n hR
            refine g_iast (f := (S.1 11)) C 11 rfl h_64 dX4_statement_64 (wMr g b (S.1 0 0) (S.1 0 1) (S.1 0 2) (S.1 0 3) (S.1 0 4) (S.1 0 5) (S.1 0 6) (S.1 0 7) (S.1 0 8) (S.1 0 9) (S.1 0 10) (S.1 0 11) (S.1 0 12) (S.1 0 13) (S.1 0 14) (S.1 1) (S.1 2) (S.1 3) (S.1 4) (S.1 5) (S.1 6) (S.1 7) (S.1 8) (S.1 9) (S.1 10) (upd (S.1 11) (Int32.toNatClampNeg (S.1 0 7)) v1) (S.1 12) (S.1 13) (S.1 14) (S.1 15) (S.1 16) (S.2 0) (S.2 1) (S.2 2)) rfl 65 rfl ?_
            refine g_aload_n C dX4_statement_65 rfl 66 rfl ?_
            refine g_get (v := .ref (b 12)) C (hiC hiA_4) 0 rfl rfl 16 (by decide) (List.mem_cons_of_mem _ wl_77) rfl rfl dX4_statement_66 69 rfl ?_
            refine g_aload_n C dX4_statement_69 rfl 70 rfl ?_
            refine g_get (v := .int (S.1 0 7)) C (hiC hiA_4) 0 rfl rfl 20 (by decide) (List.mem_cons_of_mem _ wl_213) rfl rfl dX4_statement_70 73 rfl ?_
            refine g_aload_n C dX4_statement_73 rfl 74 rfl ?_
            refine g_get (v := .int (S.1 0 6)) C (hiC hiA_4) 0 rfl rfl 19 (by decide) (List.mem_cons_of_mem _ wl_212) rfl rfl dX4_statement_74 77 rfl ?_
            obtain ⟨h_77, hR⟩ := opt_n hR
            refine g_iast (f := (S.1 12)) C 12 rfl h_77 dX4_statement_77 (wMr g b (S.1 0 0) (S.1 0 1) (S.1 0 2) (S.1 0 3) (S.1 0 4) (S.1 0 5) (S.1 0 6) (S.1 0 7) (S.1 0 8) (S.1 0 9) (S.1 0 10) (S.1 0 11) (S.1 0 12) (S.1 0 13) (S.1 0 14) (S.1 1) (S.1 2) (S.1 3) (S.1 4) (S.1 5) (S.1 6) (S.1 7) (S.1 8) (S.1 9) (S.1 10) (upd (S.1 11) (Int32.toNatClampNeg (S.1 0 7)) v1) (upd (S.1 12) (Int32.toNatClampNeg (S.1 0 7)) (S.1 0 6)) (S.1 13) (S.1 14) (S.1 15) (S.1 16) (S.2 0) (S.2 1) (S.2 2)) rfl 78 rfl ?_
            refine g_aload_n C dX4_statement_78 rfl 79 rfl ?_
            refine g_dup C dX4_statement_79 rfl 80 rfl ?_
            refine g_get (v := .int (S.1 0 6)) C (hiC hiA_4) 0 rfl rfl 19 (by decide) (List.mem_cons_of_mem _ wl_212) rfl rfl dX4_statement_80 83 rfl ?_
            refine g_iconst C dX4_statement_83 1 ic_1 84 rfl ?_
            refine g_iadd C dX4_statement_84 85 rfl ?_
            refine g_put C (hiC hiA_4) tyX4 tyX4_ok nmX4 0 rfl rfl 19 (by decide) (List.mem_cons_of_mem _ wl_212) rfl rfl rfl rfl (Nat.le_of_ble_eq_true rfl) dX4_statement_85 (wMr g b (S.1 0 0) (S.1 0 1) (S.1 0 2) (S.1 0 3) (S.1 0 4) (S.1 0 5) ((S.1 0 6) + 1) (S.1 0 7) (S.1 0 8) (S.1 0 9) (S.1 0 10) (S.1 0 11) (S.1 0 12) (S.1 0 13) (S.1 0 14) (S.1 1) (S.1 2) (S.1 3) (S.1 4) (S.1 5) (S.1 6) (S.1 7) (S.1 8) (S.1 9) (S.1 10) (upd (S.1 11) (Int32.toNatClampNeg (S.1 0 7)) v1) (upd (S.1 12) (Int32.toNatClampNeg (S.1 0 7)) (S.1 0 6)) (S.1 13) (S.1 14) (S.1 15) (S.1 16) (S.2 0) (S.2 1) (S.2 2)) rfl 88 rfl ?_
            refine g_aload_n C dX4_statement_88 rfl 89 rfl ?_
            refine g_iload_n C dX4_statement_89 rfl 90 rfl ?_
            refine g_iconst C dX4_statement_90 4 ic_4 91 rfl ?_
            refine g_aload_n C dX4_statement_91 rfl 92 rfl ?_
            refine g_get (v := .int (S.1 0 7)) C (hiC hiA_4) 0 rfl rfl 20 (by decide) (List.mem_cons_of_mem _ wl_213) rfl rfl dX4_statement_92 95 rfl ?_
            refine g_imul C dX4_statement_95 96 rfl ?_
            obtain ⟨v10, hv10, hR⟩ := opt_b hR
            refine g_callI C (rn_V C (k_X4_readsAll l g b ((kS (kS (kS S.1 0 (upd (S.1 0) 6 ((S.1 0 6) + 1))) 11 (upd (S.1 11) (Int32.toNatClampNeg (S.1 0 7)) v1)) 12 (upd (S.1 12) (Int32.toNatClampNeg (S.1 0 7)) (S.1 0 6))), S.2) v1 (4 * (S.1 0 7)) N_ v10 hv10) (cwV 2 C.1.2.2.2.2 (gdV wl_225 wl_222 wl_223 wl_224 wl_5) rfl rfl rfl hd_X4_readsAll ⟨Nat.le_of_ble_eq_true rfl, Nat.le_of_ble_eq_true rfl⟩) 0 rfl rfl _ rg_C rg_n rfl rfl (Nat.le_of_ble_eq_true rfl) ⟨Nat.zero_le _, Nat.zero_le _⟩ dX4_statement_96) (wM g b v10.2) (rg_put (wM_len.trans wMr_len.symm)) (rg_len (wM_len.trans wMr_len.symm)) 99 rfl ?_
            refine g_if_eq C dX4_statement_99 hR 111 102 (by decide) rfl (fun c_99 hR => ?_) (fun c_99 hR => ?_)
            · refine g_iconst C dX4_statement_111 0 ic_0 112 rfl ?_
              obtain rfl := Option.some.inj hR
              exact g_zret C hr hlocks (by decide) hA rfl (by first | (dsimp only; done) | rfl) dX4_statement_112
            · refine g_aload_n C dX4_statement_102 rfl 103 rfl ?_
              obtain ⟨v11, hv11, hR⟩ := opt_b hR
              refine g_callIR C (rn_V C (k_X4_next l g b v10.2 N_ v11 hv11) (cwV 0 C.1.2.2.2.2 (gdV wl_221 wl_218 wl_219 wl_220 wl_5) rfl rfl rfl hd_X4_next ⟨Nat.le_of_ble_eq_true rfl, Nat.le_of_ble_eq_true rfl⟩) 0 rfl rfl _ rg_C rg_n rfl rfl (Nat.le_of_ble_eq_true rfl) ⟨Nat.zero_le _, Nat.zero_le _⟩ dX4_statement_103) 106 rfl ?_
              refine g_bipush C dX4_statement_106 59 bp_59 108 rfl ?_
              refine g_icmp_eq C dX4_statement_108 hR 113 111 (by decide) rfl (fun c_108 hR => ?_) (fun c_108 hR => ?_)
              · refine g_aload_n C dX4_statement_113 rfl 114 rfl ?_
                refine g_dup C dX4_statement_114 rfl 115 rfl ?_
                refine g_get (v := .int (v10.2.1 0 6)) C (hiC hiA_4) 0 rfl rfl 19 (by decide) (List.mem_cons_of_mem _ wl_212) rfl rfl dX4_statement_115 118 rfl ?_
                refine g_iconst C dX4_statement_118 1 ic_1 119 rfl ?_
                refine g_iadd C dX4_statement_119 120 rfl ?_
                refine g_put C (hiC hiA_4) tyX4 tyX4_ok nmX4 0 rfl rfl 19 (by decide) (List.mem_cons_of_mem _ wl_212) rfl rfl rfl rfl (Nat.le_of_ble_eq_true rfl) dX4_statement_120 (wMr g b (v10.2.1 0 0) (v10.2.1 0 1) (v10.2.1 0 2) (v10.2.1 0 3) (v10.2.1 0 4) (v10.2.1 0 5) ((v10.2.1 0 6) + 1) (v10.2.1 0 7) (v10.2.1 0 8) (v10.2.1 0 9) (v10.2.1 0 10) (v10.2.1 0 11) (v10.2.1 0 12) (v10.2.1 0 13) (v10.2.1 0 14) (v10.2.1 1) (v10.2.1 2) (v10.2.1 3) (v10.2.1 4) (v10.2.1 5) (v10.2.1 6) (v10.2.1 7) (v10.2.1 8) (v10.2.1 9) (v10.2.1 10) (v10.2.1 11) (v10.2.1 12) (v10.2.1 13) (v10.2.1 14) (v10.2.1 15) (v10.2.1 16) (v10.2.2 0) (v10.2.2 1) (v10.2.2 2)) rfl 123 rfl ?_
                refine g_iconst C dX4_statement_123 1 ic_1 124 rfl ?_
                obtain rfl := Option.some.inj hR
                exact g_zret C hr hlocks (by decide) hA rfl (by first | (dsimp only; done) | rfl) dX4_statement_124
              · refine g_iconst C dX4_statement_111 0 ic_0 112 rfl ?_
                obtain rfl := Option.some.inj hR
                exact g_zret C hr hlocks (by decide) hA rfl (by first | (dsimp only; done) | rfl) dX4_statement_112
          · refine g_iload_n C dX4_statement_35 rfl 36 rfl ?_
            refine g_bipush C dX4_statement_36 104 bp_104 38 rfl ?_
            refine g_icmp_eq C dX4_statement_38 hR 55 41 (by decide) rfl (fun c_38 hR => ?_) (fun c_38 hR => ?_)
            · refine g_aload_n C dX4_statement_55 rfl 56 rfl ?_
              refine g_get (v := .ref (b 11)) C (hiC hiA_4) 0 rfl rfl 15 (by decide) (List.mem_cons_of_mem _ wl_76) rfl rfl dX4_statement_56 59 rfl ?_
              refine g_aload_n C dX4_statement_59 rfl 60 rfl ?_
              refine g_get (v := .int (S.1 0 7)) C (hiC hiA_4) 0 rfl rfl 20 (by decide) (List.mem_cons_of_mem _ wl_213) rfl rfl dX4_statement_60 63 rfl ?_
              refine g_iload_n C dX4_statement_63 rfl 64 rfl ?_
              obtain ⟨h_64, hR⟩ := opt_n hR
              refine g_iast (f := (S.1 11)) C 11 rfl h_64 dX4_statement_64 (wMr g b (S.1 0 0) (S.1 0 1) (S.1 0 2) (S.1 0 3) (S.1 0 4) (S.1 0 5) (S.1 0 6) (S.1 0 7) (S.1 0 8) (S.1 0 9) (S.1 0 10) (S.1 0 11) (S.1 0 12) (S.1 0 13) (S.1 0 14) (S.1 1) (S.1 2) (S.1 3) (S.1 4) (S.1 5) (S.1 6) (S.1 7) (S.1 8) (S.1 9) (S.1 10) (upd (S.1 11) (Int32.toNatClampNeg (S.1 0 7)) v1) (S.1 12) (S.1 13) (S.1 14) (S.1 15) (S.1 16) (S.2 0) (S.2 1) (S.2 2)) rfl 65 rfl ?_
              refine g_aload_n C dX4_statement_65 rfl 66 rfl ?_
              refine g_get (v := .ref (b 12)) C (hiC hiA_4) 0 rfl rfl 16 (by decide) (List.mem_cons_of_mem _ wl_77) rfl rfl dX4_statement_66 69 rfl ?_
              refine g_aload_n C dX4_statement_69 rfl 70 rfl ?_
              refine g_get (v := .int (S.1 0 7)) C (hiC hiA_4) 0 rfl rfl 20 (by decide) (List.mem_cons_of_mem _ wl_213) rfl rfl dX4_statement_70 73 rfl ?_
              refine g_aload_n C dX4_statement_73 rfl 74 rfl ?_
              refine g_get (v := .int (S.1 0 6)) C (hiC hiA_4) 0 rfl rfl 19 (by decide) (List.mem_cons_of_mem _ wl_212) rfl rfl dX4_statement_74 77 rfl ?_
              obtain ⟨h_77, hR⟩ := opt_n hR
              refine g_iast (f := (S.1 12)) C 12 rfl h_77 dX4_statement_77 (wMr g b (S.1 0 0) (S.1 0 1) (S.1 0 2) (S.1 0 3) (S.1 0 4) (S.1 0 5) (S.1 0 6) (S.1 0 7) (S.1 0 8) (S.1 0 9) (S.1 0 10) (S.1 0 11) (S.1 0 12) (S.1 0 13) (S.1 0 14) (S.1 1) (S.1 2) (S.1 3) (S.1 4) (S.1 5) (S.1 6) (S.1 7) (S.1 8) (S.1 9) (S.1 10) (upd (S.1 11) (Int32.toNatClampNeg (S.1 0 7)) v1) (upd (S.1 12) (Int32.toNatClampNeg (S.1 0 7)) (S.1 0 6)) (S.1 13) (S.1 14) (S.1 15) (S.1 16) (S.2 0) (S.2 1) (S.2 2)) rfl 78 rfl ?_
              refine g_aload_n C dX4_statement_78 rfl 79 rfl ?_
              refine g_dup C dX4_statement_79 rfl 80 rfl ?_
              refine g_get (v := .int (S.1 0 6)) C (hiC hiA_4) 0 rfl rfl 19 (by decide) (List.mem_cons_of_mem _ wl_212) rfl rfl dX4_statement_80 83 rfl ?_
              refine g_iconst C dX4_statement_83 1 ic_1 84 rfl ?_
              refine g_iadd C dX4_statement_84 85 rfl ?_
              refine g_put C (hiC hiA_4) tyX4 tyX4_ok nmX4 0 rfl rfl 19 (by decide) (List.mem_cons_of_mem _ wl_212) rfl rfl rfl rfl (Nat.le_of_ble_eq_true rfl) dX4_statement_85 (wMr g b (S.1 0 0) (S.1 0 1) (S.1 0 2) (S.1 0 3) (S.1 0 4) (S.1 0 5) ((S.1 0 6) + 1) (S.1 0 7) (S.1 0 8) (S.1 0 9) (S.1 0 10) (S.1 0 11) (S.1 0 12) (S.1 0 13) (S.1 0 14) (S.1 1) (S.1 2) (S.1 3) (S.1 4) (S.1 5) (S.1 6) (S.1 7) (S.1 8) (S.1 9) (S.1 10) (upd (S.1 11) (Int32.toNatClampNeg (S.1 0 7)) v1) (upd (S.1 12) (Int32.toNatClampNeg (S.1 0 7)) (S.1 0 6)) (S.1 13) (S.1 14) (S.1 15) (S.1 16) (S.2 0) (S.2 1) (S.2 2)) rfl 88 rfl ?_
              refine g_aload_n C dX4_statement_88 rfl 89 rfl ?_
              refine g_iload_n C dX4_statement_89 rfl 90 rfl ?_
              refine g_iconst C dX4_statement_90 4 ic_4 91 rfl ?_
              refine g_aload_n C dX4_statement_91 rfl 92 rfl ?_
              refine g_get (v := .int (S.1 0 7)) C (hiC hiA_4) 0 rfl rfl 20 (by decide) (List.mem_cons_of_mem _ wl_213) rfl rfl dX4_statement_92 95 rfl ?_
              refine g_imul C dX4_statement_95 96 rfl ?_
              obtain ⟨v12, hv12, hR⟩ := opt_b hR
              refine g_callI C (rn_V C (k_X4_readsAll l g b ((kS (kS (kS S.1 0 (upd (S.1 0) 6 ((S.1 0 6) + 1))) 11 (upd (S.1 11) (Int32.toNatClampNeg (S.1 0 7)) v1)) 12 (upd (S.1 12) (Int32.toNatClampNeg (S.1 0 7)) (S.1 0 6))), S.2) v1 (4 * (S.1 0 7)) N_ v12 hv12) (cwV 2 C.1.2.2.2.2 (gdV wl_225 wl_222 wl_223 wl_224 wl_5) rfl rfl rfl hd_X4_readsAll ⟨Nat.le_of_ble_eq_true rfl, Nat.le_of_ble_eq_true rfl⟩) 0 rfl rfl _ rg_C rg_n rfl rfl (Nat.le_of_ble_eq_true rfl) ⟨Nat.zero_le _, Nat.zero_le _⟩ dX4_statement_96) (wM g b v12.2) (rg_put (wM_len.trans wMr_len.symm)) (rg_len (wM_len.trans wMr_len.symm)) 99 rfl ?_
              refine g_if_eq C dX4_statement_99 hR 111 102 (by decide) rfl (fun c_99 hR => ?_) (fun c_99 hR => ?_)
              · refine g_iconst C dX4_statement_111 0 ic_0 112 rfl ?_
                obtain rfl := Option.some.inj hR
                exact g_zret C hr hlocks (by decide) hA rfl (by first | (dsimp only; done) | rfl) dX4_statement_112
              · refine g_aload_n C dX4_statement_102 rfl 103 rfl ?_
                obtain ⟨v13, hv13, hR⟩ := opt_b hR
                refine g_callIR C (rn_V C (k_X4_next l g b v12.2 N_ v13 hv13) (cwV 0 C.1.2.2.2.2 (gdV wl_221 wl_218 wl_219 wl_220 wl_5) rfl rfl rfl hd_X4_next ⟨Nat.le_of_ble_eq_true rfl, Nat.le_of_ble_eq_true rfl⟩) 0 rfl rfl _ rg_C rg_n rfl rfl (Nat.le_of_ble_eq_true rfl) ⟨Nat.zero_le _, Nat.zero_le _⟩ dX4_statement_103) 106 rfl ?_
                refine g_bipush C dX4_statement_106 59 bp_59 108 rfl ?_
                refine g_icmp_eq C dX4_statement_108 hR 113 111 (by decide) rfl (fun c_108 hR => ?_) (fun c_108 hR => ?_)
                · refine g_aload_n C dX4_statement_113 rfl 114 rfl ?_
                  refine g_dup C dX4_statement_114 rfl 115 rfl ?_
                  refine g_get (v := .int (v12.2.1 0 6)) C (hiC hiA_4) 0 rfl rfl 19 (by decide) (List.mem_cons_of_mem _ wl_212) rfl rfl dX4_statement_115 118 rfl ?_
                  refine g_iconst C dX4_statement_118 1 ic_1 119 rfl ?_
                  refine g_iadd C dX4_statement_119 120 rfl ?_
                  refine g_put C (hiC hiA_4) tyX4 tyX4_ok nmX4 0 rfl rfl 19 (by decide) (List.mem_cons_of_mem _ wl_212) rfl rfl rfl rfl (Nat.le_of_ble_eq_true rfl) dX4_statement_120 (wMr g b (v12.2.1 0 0) (v12.2.1 0 1) (v12.2.1 0 2) (v12.2.1 0 3) (v12.2.1 0 4) (v12.2.1 0 5) ((v12.2.1 0 6) + 1) (v12.2.1 0 7) (v12.2.1 0 8) (v12.2.1 0 9) (v12.2.1 0 10) (v12.2.1 0 11) (v12.2.1 0 12) (v12.2.1 0 13) (v12.2.1 0 14) (v12.2.1 1) (v12.2.1 2) (v12.2.1 3) (v12.2.1 4) (v12.2.1 5) (v12.2.1 6) (v12.2.1 7) (v12.2.1 8) (v12.2.1 9) (v12.2.1 10) (v12.2.1 11) (v12.2.1 12) (v12.2.1 13) (v12.2.1 14) (v12.2.1 15) (v12.2.1 16) (v12.2.2 0) (v12.2.2 1) (v12.2.2 2)) rfl 123 rfl ?_
                  refine g_iconst C dX4_statement_123 1 ic_1 124 rfl ?_
                  obtain rfl := Option.some.inj hR
                  exact g_zret C hr hlocks (by decide) hA rfl (by first | (dsimp only; done) | rfl) dX4_statement_124
                · refine g_iconst C dX4_statement_111 0 ic_0 112 rfl ?_
                  obtain rfl := Option.some.inj hR
                  exact g_zret C hr hlocks (by decide) hA rfl (by first | (dsimp only; done) | rfl) dX4_statement_112
            · refine g_iload_n C dX4_statement_41 rfl 42 rfl ?_
              refine g_bipush C dX4_statement_42 115 bp_115 44 rfl ?_
              refine g_icmp_eq C dX4_statement_44 hR 55 47 (by decide) rfl (fun c_44 hR => ?_) (fun c_44 hR => ?_)
              · refine g_aload_n C dX4_statement_55 rfl 56 rfl ?_
                refine g_get (v := .ref (b 11)) C (hiC hiA_4) 0 rfl rfl 15 (by decide) (List.mem_cons_of_mem _ wl_76) rfl rfl dX4_statement_56 59 rfl ?_
                refine g_aload_n C dX4_statement_59 rfl 60 rfl ?_
                refine g_get (v := .int (S.1 0 7)) C (hiC hiA_4) 0 rfl rfl 20 (by decide) (List.mem_cons_of_mem _ wl_213) rfl rfl dX4_statement_60 63 rfl ?_
                refine g_iload_n C dX4_statement_63 rfl 64 rfl ?_
                obtain ⟨h_64, hR⟩ := opt_n hR
                refine g_iast (f := (S.1 11)) C 11 rfl h_64 dX4_statement_64 (wMr g b (S.1 0 0) (S.1 0 1) (S.1 0 2) (S.1 0 3) (S.1 0 4) (S.1 0 5) (S.1 0 6) (S.1 0 7) (S.1 0 8) (S.1 0 9) (S.1 0 10) (S.1 0 11) (S.1 0 12) (S.1 0 13) (S.1 0 14) (S.1 1) (S.1 2) (S.1 3) (S.1 4) (S.1 5) (S.1 6) (S.1 7) (S.1 8) (S.1 9) (S.1 10) (upd (S.1 11) (Int32.toNatClampNeg (S.1 0 7)) v1) (S.1 12) (S.1 13) (S.1 14) (S.1 15) (S.1 16) (S.2 0) (S.2 1) (S.2 2)) rfl 65 rfl ?_
                refine g_aload_n C dX4_statement_65 rfl 66 rfl ?_
                refine g_get (v := .ref (b 12)) C (hiC hiA_4) 0 rfl rfl 16 (by decide) (List.mem_cons_of_mem _ wl_77) rfl rfl dX4_statement_66 69 rfl ?_
                refine g_aload_n C dX4_statement_69 rfl 70 rfl ?_
                refine g_get (v := .int (S.1 0 7)) C (hiC hiA_4) 0 rfl rfl 20 (by decide) (List.mem_cons_of_mem _ wl_213) rfl rfl dX4_statement_70 73 rfl ?_
                refine g_aload_n C dX4_statement_73 rfl 74 rfl ?_
                refine g_get (v := .int (S.1 0 6)) C (hiC hiA_4) 0 rfl rfl 19 (by decide) (List.mem_cons_of_mem _ wl_212) rfl rfl dX4_statement_74 77 rfl ?_
                obtain ⟨h_77, hR⟩ := opt_n hR
                refine g_iast (f := (S.1 12)) C 12 rfl h_77 dX4_statement_77 (wMr g b (S.1 0 0) (S.1 0 1) (S.1 0 2) (S.1 0 3) (S.1 0 4) (S.1 0 5) (S.1 0 6) (S.1 0 7) (S.1 0 8) (S.1 0 9) (S.1 0 10) (S.1 0 11) (S.1 0 12) (S.1 0 13) (S.1 0 14) (S.1 1) (S.1 2) (S.1 3) (S.1 4) (S.1 5) (S.1 6) (S.1 7) (S.1 8) (S.1 9) (S.1 10) (upd (S.1 11) (Int32.toNatClampNeg (S.1 0 7)) v1) (upd (S.1 12) (Int32.toNatClampNeg (S.1 0 7)) (S.1 0 6)) (S.1 13) (S.1 14) (S.1 15) (S.1 16) (S.2 0) (S.2 1) (S.2 2)) rfl 78 rfl ?_
                refine g_aload_n C dX4_statement_78 rfl 79 rfl ?_
                refine g_dup C dX4_statement_79 rfl 80 rfl ?_
                refine g_get (v := .int (S.1 0 6)) C (hiC hiA_4) 0 rfl rfl 19 (by decide) (List.mem_cons_of_mem _ wl_212) rfl rfl dX4_statement_80 83 rfl ?_
                refine g_iconst C dX4_statement_83 1 ic_1 84 rfl ?_
                refine g_iadd C dX4_statement_84 85 rfl ?_
                refine g_put C (hiC hiA_4) tyX4 tyX4_ok nmX4 0 rfl rfl 19 (by decide) (List.mem_cons_of_mem _ wl_212) rfl rfl rfl rfl (Nat.le_of_ble_eq_true rfl) dX4_statement_85 (wMr g b (S.1 0 0) (S.1 0 1) (S.1 0 2) (S.1 0 3) (S.1 0 4) (S.1 0 5) ((S.1 0 6) + 1) (S.1 0 7) (S.1 0 8) (S.1 0 9) (S.1 0 10) (S.1 0 11) (S.1 0 12) (S.1 0 13) (S.1 0 14) (S.1 1) (S.1 2) (S.1 3) (S.1 4) (S.1 5) (S.1 6) (S.1 7) (S.1 8) (S.1 9) (S.1 10) (upd (S.1 11) (Int32.toNatClampNeg (S.1 0 7)) v1) (upd (S.1 12) (Int32.toNatClampNeg (S.1 0 7)) (S.1 0 6)) (S.1 13) (S.1 14) (S.1 15) (S.1 16) (S.2 0) (S.2 1) (S.2 2)) rfl 88 rfl ?_
                refine g_aload_n C dX4_statement_88 rfl 89 rfl ?_
                refine g_iload_n C dX4_statement_89 rfl 90 rfl ?_
                refine g_iconst C dX4_statement_90 4 ic_4 91 rfl ?_
                refine g_aload_n C dX4_statement_91 rfl 92 rfl ?_
                refine g_get (v := .int (S.1 0 7)) C (hiC hiA_4) 0 rfl rfl 20 (by decide) (List.mem_cons_of_mem _ wl_213) rfl rfl dX4_statement_92 95 rfl ?_
                refine g_imul C dX4_statement_95 96 rfl ?_
                obtain ⟨v14, hv14, hR⟩ := opt_b hR
                refine g_callI C (rn_V C (k_X4_readsAll l g b ((kS (kS (kS S.1 0 (upd (S.1 0) 6 ((S.1 0 6) + 1))) 11 (upd (S.1 11) (Int32.toNatClampNeg (S.1 0 7)) v1)) 12 (upd (S.1 12) (Int32.toNatClampNeg (S.1 0 7)) (S.1 0 6))), S.2) v1 (4 * (S.1 0 7)) N_ v14 hv14) (cwV 2 C.1.2.2.2.2 (gdV wl_225 wl_222 wl_223 wl_224 wl_5) rfl rfl rfl hd_X4_readsAll ⟨Nat.le_of_ble_eq_true rfl, Nat.le_of_ble_eq_true rfl⟩) 0 rfl rfl _ rg_C rg_n rfl rfl (Nat.le_of_ble_eq_true rfl) ⟨Nat.zero_le _, Nat.zero_le _⟩ dX4_statement_96) (wM g b v14.2) (rg_put (wM_len.trans wMr_len.symm)) (rg_len (wM_len.trans wMr_len.symm)) 99 rfl ?_
                refine g_if_eq C dX4_statement_99 hR 111 102 (by decide) rfl (fun c_99 hR => ?_) (fun c_99 hR => ?_)
                · refine g_iconst C dX4_statement_111 0 ic_0 112 rfl ?_
                  obtain rfl := Option.some.inj hR
                  exact g_zret C hr hlocks (by decide) hA rfl (by first | (dsimp only; done) | rfl) dX4_statement_112
                · refine g_aload_n C dX4_statement_102 rfl 103 rfl ?_
                  obtain ⟨v15, hv15, hR⟩ := opt_b hR
                  refine g_callIR C (rn_V C (k_X4_next l g b v14.2 N_ v15 hv15) (cwV 0 C.1.2.2.2.2 (gdV wl_221 wl_218 wl_219 wl_220 wl_5) rfl rfl rfl hd_X4_next ⟨Nat.le_of_ble_eq_true rfl, Nat.le_of_ble_eq_true rfl⟩) 0 rfl rfl _ rg_C rg_n rfl rfl (Nat.le_of_ble_eq_true rfl) ⟨Nat.zero_le _, Nat.zero_le _⟩ dX4_statement_103) 106 rfl ?_
                  refine g_bipush C dX4_statement_106 59 bp_59 108 rfl ?_
                  refine g_icmp_eq C dX4_statement_108 hR 113 111 (by decide) rfl (fun c_108 hR => ?_) (fun c_108 hR => ?_)
                  · refine g_aload_n C dX4_statement_113 rfl 114 rfl ?_
                    refine g_dup C dX4_statement_114 rfl 115 rfl ?_
                    refine g_get (v := .int (v14.2.1 0 6)) C (hiC hiA_4) 0 rfl rfl 19 (by decide) (List.mem_cons_of_mem _ wl_212) rfl rfl dX4_statement_115 118 rfl ?_
                    refine g_iconst C dX4_statement_118 1 ic_1 119 rfl ?_
                    refine g_iadd C dX4_statement_119 120 rfl ?_
                    refine g_put C (hiC hiA_4) tyX4 tyX4_ok nmX4 0 rfl rfl 19 (by decide) (List.mem_cons_of_mem _ wl_212) rfl rfl rfl rfl (Nat.le_of_ble_eq_true rfl) dX4_statement_120 (wMr g b (v14.2.1 0 0) (v14.2.1 0 1) (v14.2.1 0 2) (v14.2.1 0 3) (v14.2.1 0 4) (v14.2.1 0 5) ((v14.2.1 0 6) + 1) (v14.2.1 0 7) (v14.2.1 0 8) (v14.2.1 0 9) (v14.2.1 0 10) (v14.2.1 0 11) (v14.2.1 0 12) (v14.2.1 0 13) (v14.2.1 0 14) (v14.2.1 1) (v14.2.1 2) (v14.2.1 3) (v14.2.1 4) (v14.2.1 5) (v14.2.1 6) (v14.2.1 7) (v14.2.1 8) (v14.2.1 9) (v14.2.1 10) (v14.2.1 11) (v14.2.1 12) (v14.2.1 13) (v14.2.1 14) (v14.2.1 15) (v14.2.1 16) (v14.2.2 0) (v14.2.2 1) (v14.2.2 2)) rfl 123 rfl ?_
                    refine g_iconst C dX4_statement_123 1 ic_1 124 rfl ?_
                    obtain rfl := Option.some.inj hR
                    exact g_zret C hr hlocks (by decide) hA rfl (by first | (dsimp only; done) | rfl) dX4_statement_124
                  · refine g_iconst C dX4_statement_111 0 ic_0 112 rfl ?_
                    obtain rfl := Option.some.inj hR
                    exact g_zret C hr hlocks (by decide) hA rfl (by first | (dsimp only; done) | rfl) dX4_statement_112
              · refine g_iload_n C dX4_statement_47 rfl 48 rfl ?_
                refine g_bipush C dX4_statement_48 117 bp_117 50 rfl ?_
                refine g_icmp_eq C dX4_statement_50 hR 55 53 (by decide) rfl (fun c_50 hR => ?_) (fun c_50 hR => ?_)
                · refine g_aload_n C dX4_statement_55 rfl 56 rfl ?_
                  refine g_get (v := .ref (b 11)) C (hiC hiA_4) 0 rfl rfl 15 (by decide) (List.mem_cons_of_mem _ wl_76) rfl rfl dX4_statement_56 59 rfl ?_
                  refine g_aload_n C dX4_statement_59 rfl 60 rfl ?_
                  refine g_get (v := .int (S.1 0 7)) C (hiC hiA_4) 0 rfl rfl 20 (by decide) (List.mem_cons_of_mem _ wl_213) rfl rfl dX4_statement_60 63 rfl ?_
                  refine g_iload_n C dX4_statement_63 rfl 64 rfl ?_
                  obtain ⟨h_64, hR⟩ := opt_n hR
                  refine g_iast (f := (S.1 11)) C 11 rfl h_64 dX4_statement_64 (wMr g b (S.1 0 0) (S.1 0 1) (S.1 0 2) (S.1 0 3) (S.1 0 4) (S.1 0 5) (S.1 0 6) (S.1 0 7) (S.1 0 8) (S.1 0 9) (S.1 0 10) (S.1 0 11) (S.1 0 12) (S.1 0 13) (S.1 0 14) (S.1 1) (S.1 2) (S.1 3) (S.1 4) (S.1 5) (S.1 6) (S.1 7) (S.1 8) (S.1 9) (S.1 10) (upd (S.1 11) (Int32.toNatClampNeg (S.1 0 7)) v1) (S.1 12) (S.1 13) (S.1 14) (S.1 15) (S.1 16) (S.2 0) (S.2 1) (S.2 2)) rfl 65 rfl ?_
                  refine g_aload_n C dX4_statement_65 rfl 66 rfl ?_
                  refine g_get (v := .ref (b 12)) C (hiC hiA_4) 0 rfl rfl 16 (by decide) (List.mem_cons_of_mem _ wl_77) rfl rfl dX4_statement_66 69 rfl ?_
                  refine g_aload_n C dX4_statement_69 rfl 70 rfl ?_
                  refine g_get (v := .int (S.1 0 7)) C (hiC hiA_4) 0 rfl rfl 20 (by decide) (List.mem_cons_of_mem _ wl_213) rfl rfl dX4_statement_70 73 rfl ?_
                  refine g_aload_n C dX4_statement_73 rfl 74 rfl ?_
                  refine g_get (v := .int (S.1 0 6)) C (hiC hiA_4) 0 rfl rfl 19 (by decide) (List.mem_cons_of_mem _ wl_212) rfl rfl dX4_statement_74 77 rfl ?_
                  obtain ⟨h_77, hR⟩ := opt_n hR
                  refine g_iast (f := (S.1 12)) C 12 rfl h_77 dX4_statement_77 (wMr g b (S.1 0 0) (S.1 0 1) (S.1 0 2) (S.1 0 3) (S.1 0 4) (S.1 0 5) (S.1 0 6) (S.1 0 7) (S.1 0 8) (S.1 0 9) (S.1 0 10) (S.1 0 11) (S.1 0 12) (S.1 0 13) (S.1 0 14) (S.1 1) (S.1 2) (S.1 3) (S.1 4) (S.1 5) (S.1 6) (S.1 7) (S.1 8) (S.1 9) (S.1 10) (upd (S.1 11) (Int32.toNatClampNeg (S.1 0 7)) v1) (upd (S.1 12) (Int32.toNatClampNeg (S.1 0 7)) (S.1 0 6)) (S.1 13) (S.1 14) (S.1 15) (S.1 16) (S.2 0) (S.2 1) (S.2 2)) rfl 78 rfl ?_
                  refine g_aload_n C dX4_statement_78 rfl 79 rfl ?_
                  refine g_dup C dX4_statement_79 rfl 80 rfl ?_
                  refine g_get (v := .int (S.1 0 6)) C (hiC hiA_4) 0 rfl rfl 19 (by decide) (List.mem_cons_of_mem _ wl_212) rfl rfl dX4_statement_80 83 rfl ?_
                  refine g_iconst C dX4_statement_83 1 ic_1 84 rfl ?_
                  refine g_iadd C dX4_statement_84 85 rfl ?_
                  refine g_put C (hiC hiA_4) tyX4 tyX4_ok nmX4 0 rfl rfl 19 (by decide) (List.mem_cons_of_mem _ wl_212) rfl rfl rfl rfl (Nat.le_of_ble_eq_true rfl) dX4_statement_85 (wMr g b (S.1 0 0) (S.1 0 1) (S.1 0 2) (S.1 0 3) (S.1 0 4) (S.1 0 5) ((S.1 0 6) + 1) (S.1 0 7) (S.1 0 8) (S.1 0 9) (S.1 0 10) (S.1 0 11) (S.1 0 12) (S.1 0 13) (S.1 0 14) (S.1 1) (S.1 2) (S.1 3) (S.1 4) (S.1 5) (S.1 6) (S.1 7) (S.1 8) (S.1 9) (S.1 10) (upd (S.1 11) (Int32.toNatClampNeg (S.1 0 7)) v1) (upd (S.1 12) (Int32.toNatClampNeg (S.1 0 7)) (S.1 0 6)) (S.1 13) (S.1 14) (S.1 15) (S.1 16) (S.2 0) (S.2 1) (S.2 2)) rfl 88 rfl ?_
                  refine g_aload_n C dX4_statement_88 rfl 89 rfl ?_
                  refine g_iload_n C dX4_statement_89 rfl 90 rfl ?_
                  refine g_iconst C dX4_statement_90 4 ic_4 91 rfl ?_
                  refine g_aload_n C dX4_statement_91 rfl 92 rfl ?_
                  refine g_get (v := .int (S.1 0 7)) C (hiC hiA_4) 0 rfl rfl 20 (by decide) (List.mem_cons_of_mem _ wl_213) rfl rfl dX4_statement_92 95 rfl ?_
                  refine g_imul C dX4_statement_95 96 rfl ?_
                  obtain ⟨v16, hv16, hR⟩ := opt_b hR
                  refine g_callI C (rn_V C (k_X4_readsAll l g b ((kS (kS (kS S.1 0 (upd (S.1 0) 6 ((S.1 0 6) + 1))) 11 (upd (S.1 11) (Int32.toNatClampNeg (S.1 0 7)) v1)) 12 (upd (S.1 12) (Int32.toNatClampNeg (S.1 0 7)) (S.1 0 6))), S.2) v1 (4 * (S.1 0 7)) N_ v16 hv16) (cwV 2 C.1.2.2.2.2 (gdV wl_225 wl_222 wl_223 wl_224 wl_5) rfl rfl rfl hd_X4_readsAll ⟨Nat.le_of_ble_eq_true rfl, Nat.le_of_ble_eq_true rfl⟩) 0 rfl rfl _ rg_C rg_n rfl rfl (Nat.le_of_ble_eq_true rfl) ⟨Nat.zero_le _, Nat.zero_le _⟩ dX4_statement_96) (wM g b v16.2) (rg_put (wM_len.trans wMr_len.symm)) (rg_len (wM_len.trans wMr_len.symm)) 99 rfl ?_
                  refine g_if_eq C dX4_statement_99 hR 111 102 (by decide) rfl (fun c_99 hR => ?_) (fun c_99 hR => ?_)
                  · refine g_iconst C dX4_statement_111 0 ic_0 112 rfl ?_
                    obtain rfl := Option.some.inj hR
                    exact g_zret C hr hlocks (by decide) hA rfl (by first | (dsimp only; done) | rfl) dX4_statement_112
                  · refine g_aload_n C dX4_statement_102 rfl 103 rfl ?_
                    obtain ⟨v17, hv17, hR⟩ := opt_b hR
                    refine g_callIR C (rn_V C (k_X4_next l g b v16.2 N_ v17 hv17) (cwV 0 C.1.2.2.2.2 (gdV wl_221 wl_218 wl_219 wl_220 wl_5) rfl rfl rfl hd_X4_next ⟨Nat.le_of_ble_eq_true rfl, Nat.le_of_ble_eq_true rfl⟩) 0 rfl rfl _ rg_C rg_n rfl rfl (Nat.le_of_ble_eq_true rfl) ⟨Nat.zero_le _, Nat.zero_le _⟩ dX4_statement_103) 106 rfl ?_
                    refine g_bipush C dX4_statement_106 59 bp_59 108 rfl ?_
                    refine g_icmp_eq C dX4_statement_108 hR 113 111 (by decide) rfl (fun c_108 hR => ?_) (fun c_108 hR => ?_)
                    · refine g_aload_n C dX4_statement_113 rfl 114 rfl ?_
                      refine g_dup C dX4_statement_114 rfl 115 rfl ?_
                      refine g_get (v := .int (v16.2.1 0 6)) C (hiC hiA_4) 0 rfl rfl 19 (by decide) (List.mem_cons_of_mem _ wl_212) rfl rfl dX4_statement_115 118 rfl ?_
                      refine g_iconst C dX4_statement_118 1 ic_1 119 rfl ?_
                      refine g_iadd C dX4_statement_119 120 rfl ?_
                      refine g_put C (hiC hiA_4) tyX4 tyX4_ok nmX4 0 rfl rfl 19 (by decide) (List.mem_cons_of_mem _ wl_212) rfl rfl rfl rfl (Nat.le_of_ble_eq_true rfl) dX4_statement_120 (wMr g b (v16.2.1 0 0) (v16.2.1 0 1) (v16.2.1 0 2) (v16.2.1 0 3) (v16.2.1 0 4) (v16.2.1 0 5) ((v16.2.1 0 6) + 1) (v16.2.1 0 7) (v16.2.1 0 8) (v16.2.1 0 9) (v16.2.1 0 10) (v16.2.1 0 11) (v16.2.1 0 12) (v16.2.1 0 13) (v16.2.1 0 14) (v16.2.1 1) (v16.2.1 2) (v16.2.1 3) (v16.2.1 4) (v16.2.1 5) (v16.2.1 6) (v16.2.1 7) (v16.2.1 8) (v16.2.1 9) (v16.2.1 10) (v16.2.1 11) (v16.2.1 12) (v16.2.1 13) (v16.2.1 14) (v16.2.1 15) (v16.2.1 16) (v16.2.2 0) (v16.2.2 1) (v16.2.2 2)) rfl 123 rfl ?_
                      refine g_iconst C dX4_statement_123 1 ic_1 124 rfl ?_
                      obtain rfl := Option.some.inj hR
                      exact g_zret C hr hlocks (by decide) hA rfl (by first | (dsimp only; done) | rfl) dX4_statement_124
                    · refine g_iconst C dX4_statement_111 0 ic_0 112 rfl ?_
                      obtain rfl := Option.some.inj hR
                      exact g_zret C hr hlocks (by decide) hA rfl (by first | (dsimp only; done) | rfl) dX4_statement_112
                · refine g_iconst C dX4_statement_53 0 ic_0 54 rfl ?_
                  obtain rfl := Option.some.inj hR
                  exact g_zret C hr hlocks (by decide) hA rfl (by first | (dsimp only; done) | rfl) dX4_statement_54
theorem hd_X4_comesJug : yX4_comesJug.cls = RX4 ∧ yX4_comesJug.cls ≠ "java/lang/invoke/MethodHandle" ∧ yX4_comesJug.cls ≠ "java/lang/invoke/VarHandle" ∧ (parseMethodDescriptor yX4_comesJug.desc).map (fun d => d.parameters.length) = some 1 := by decide +kernel
def f_X4_comesJug (S : (Nat → Nat → Int32) × (Nat → Nat → Int64)) (p0 : Int32) (N_ : Nat) : Option (Bool × ((Nat → Nat → Int32) × (Nat → Nat → Int64))) :=
  if p0 < 0 ∨ 192 ≤ (Int32.toNatClampNeg p0) then none else
  if 5 < ((S.1 13) (Int32.toNatClampNeg p0)) then
    some (false, S)
  else
    if (p0 + 2) < 0 ∨ 192 ≤ (Int32.toNatClampNeg (p0 + 2)) then none else
    if ((S.1 13) (Int32.toNatClampNeg (p0 + 2))) = 0 then
      some (false, S)
    else
      if (p0 + 3) < 0 ∨ 192 ≤ (Int32.toNatClampNeg (p0 + 3)) then none else
      if 240 < ((S.1 13) (Int32.toNatClampNeg (p0 + 3))) then
        some (false, S)
      else
        if (S.1 0 0) = 5 then
          some (false, S)
        else
          if p0 < 0 ∨ 192 ≤ (Int32.toNatClampNeg p0) then none else
          if (S.1 0 0) < 0 ∨ 5 ≤ (Int32.toNatClampNeg (S.1 0 0)) then none else
          if (p0 + 1) < 0 ∨ 192 ≤ (Int32.toNatClampNeg (p0 + 1)) then none else
          if (S.1 0 0) < 0 ∨ 5 ≤ (Int32.toNatClampNeg (S.1 0 0)) then none else
          if (p0 + 2) < 0 ∨ 192 ≤ (Int32.toNatClampNeg (p0 + 2)) then none else
          if (S.1 0 0) < 0 ∨ 5 ≤ (Int32.toNatClampNeg (S.1 0 0)) then none else
          if (p0 + 3) < 0 ∨ 192 ≤ (Int32.toNatClampNeg (p0 + 3)) then none else
          if (S.1 0 0) < 0 ∨ 5 ≤ (Int32.toNatClampNeg (S.1 0 0)) then none else
          some (true, ((kS (kS (kS (kS (kS S.1 0 (upd (S.1 0) 0 ((S.1 0 0) + 1))) 2 (upd (S.1 2) (Int32.toNatClampNeg (S.1 0 0)) ((S.1 13) (Int32.toNatClampNeg p0)))) 3 (upd (S.1 3) (Int32.toNatClampNeg (S.1 0 0)) ((S.1 13) (Int32.toNatClampNeg (p0 + 1))))) 4 (upd (S.1 4) (Int32.toNatClampNeg (S.1 0 0)) ((S.1 13) (Int32.toNatClampNeg (p0 + 2))))) 5 (upd (S.1 5) (Int32.toNatClampNeg (S.1 0 0)) ((S.1 13) (Int32.toNatClampNeg (p0 + 3))))), S.2))
set_option maxRecDepth 100000 in
set_option maxHeartbeats 4000000 in
theorem k_X4_comesJug (l : Launch) (g : gE) (b : Nat → Nat) (S : (Nat → Nat → Int32) × (Nat → Nat → Int64)) (p0 : Int32) (N_ : Nat) (R_ : Bool × ((Nat → Nat → Int32) × (Nat → Nat → Int64))) (hR : f_X4_comesJug S p0 N_ = some R_) : FnI l g yX4_comesJug wA_X4_comesJug { frames := 0, cells := 0, slots := 0, locals := 0 } [.ref (b 0), .int p0] (wM g b S) (b2i R_.1) (wM g b R_.2) := by
  refine fEntry (As := [.ref (b 0), .int p0]) (maxL := 2) (ret := (some .boolean)) (by decide) rfl [some (.ref (b 0)), some (.int p0)] (Nat.le_of_ble_eq_true rfl) (lvInB.to (lvInB.sm (lvInB.sm lvInB.nil))) ?_
  intro p e s m below meth c A C hr hlocks hname hA
  have C : Cx p s m _ c g A cX4_comesJug 2 wA_X4_comesJug RX4 := C
  rw [f_X4_comesJug] at hR
  refine g_aload_n C dX4_comesJug_0 rfl 1 rfl ?_
  refine g_get (v := .ref (b 13)) C (hiC hiA_4) 0 rfl rfl 17 (by decide) (List.mem_cons_of_mem _ wl_78) rfl rfl dX4_comesJug_1 4 rfl ?_
  refine g_iload_n C dX4_comesJug_4 rfl 5 rfl ?_
  obtain ⟨h_5, hR⟩ := opt_n hR
  refine g_iald (f := (S.1 13)) C 13 rfl h_5 dX4_comesJug_5 6 rfl ?_
  refine g_iconst C dX4_comesJug_6 5 ic_5 7 rfl ?_
  refine g_icmp_gt C dX4_comesJug_7 hR 43 10 (by decide) rfl (fun c_7 hR => ?_) (fun c_7 hR => ?_)
  · refine g_iconst C dX4_comesJug_43 0 ic_0 44 rfl ?_
    obtain rfl := Option.some.inj hR
    exact g_zret C hr hlocks (by decide) hA rfl (by first | (dsimp only; done) | rfl) dX4_comesJug_44
  · refine g_aload_n C dX4_comesJug_10 rfl 11 rfl ?_
    refine g_get (v := .ref (b 13)) C (hiC hiA_4) 0 rfl rfl 17 (by decide) (List.mem_cons_of_mem _ wl_78) rfl rfl dX4_comesJug_11 14 rfl ?_
    refine g_iload_n C dX4_comesJug_14 rfl 15 rfl ?_
    refine g_iconst C dX4_comesJug_15 2 ic_2 16 rfl ?_
    refine g_iadd C dX4_comesJug_16 17 rfl ?_
    obtain ⟨h_17, hR⟩ := opt_n hR
    refine g_iald (f := (S.1 13)) C 13 rfl h_17 dX4_comesJug_17 18 rfl ?_
    refine g_if_eq C dX4_comesJug_18 hR 43 21 (by decide) rfl (fun c_18 hR => ?_) (fun c_18 hR => ?_)
    · refine g_iconst C dX4_comesJug_43 0 ic_0 44 rfl ?_
      obtain rfl := Option.some.inj hR
      exact g_zret C hr hlocks (by decide) hA rfl (by first | (dsimp only; done) | rfl) dX4_comesJug_44
    · refine g_aload_n C dX4_comesJug_21 rfl 22 rfl ?_
      refine g_get (v := .ref (b 13)) C (hiC hiA_4) 0 rfl rfl 17 (by decide) (List.mem_cons_of_mem _ wl_78) rfl rfl dX4_comesJug_22 25 rfl ?_
      refine g_iload_n C dX4_comesJug_25 rfl 26 rfl ?_
      refine g_iconst C dX4_comesJug_26 3 ic_3 27 rfl ?_
      refine g_iadd C dX4_comesJug_27 28 rfl ?_
      obtain ⟨h_28, hR⟩ := opt_n hR
      refine g_iald (f := (S.1 13)) C 13 rfl h_28 dX4_comesJug_28 29 rfl ?_
      refine g_sipush C dX4_comesJug_29 240 sp_240 32 rfl ?_
      refine g_icmp_gt C dX4_comesJug_32 hR 43 35 (by decide) rfl (fun c_32 hR => ?_) (fun c_32 hR => ?_)
      · refine g_iconst C dX4_comesJug_43 0 ic_0 44 rfl ?_
        obtain rfl := Option.some.inj hR
        exact g_zret C hr hlocks (by decide) hA rfl (by first | (dsimp only; done) | rfl) dX4_comesJug_44
      · refine g_aload_n C dX4_comesJug_35 rfl 36 rfl ?_
        refine g_get (v := .int (S.1 0 0)) C (hiC hiA_4) 0 rfl rfl 9 (by decide) (List.mem_cons_of_mem _ wl_239) rfl rfl dX4_comesJug_36 39 rfl ?_
        refine g_iconst C dX4_comesJug_39 5 ic_5 40 rfl ?_
        refine g_icmp_ne C dX4_comesJug_40 hR 45 43 (by decide) rfl (fun c_40 hR => ?_) (fun c_40 hR => ?_)
        · refine g_aload_n C dX4_comesJug_45 rfl 46 rfl ?_
          refine g_get (v := .ref (b 2)) C (hiC hiA_4) 0 rfl rfl 1 (by decide) (List.mem_cons_of_mem _ wl_67) rfl rfl dX4_comesJug_46 49 rfl ?_
          refine g_aload_n C dX4_comesJug_49 rfl 50 rfl ?_
          refine g_get (v := .int (S.1 0 0)) C (hiC hiA_4) 0 rfl rfl 9 (by decide) (List.mem_cons_of_mem _ wl_239) rfl rfl dX4_comesJug_50 53 rfl ?_
          refine g_aload_n C dX4_comesJug_53 rfl 54 rfl ?_
          refine g_get (v := .ref (b 13)) C (hiC hiA_4) 0 rfl rfl 17 (by decide) (List.mem_cons_of_mem _ wl_78) rfl rfl dX4_comesJug_54 57 rfl ?_
          refine g_iload_n C dX4_comesJug_57 rfl 58 rfl ?_
          obtain ⟨h_58, hR⟩ := opt_n hR
          refine g_iald (f := (S.1 13)) C 13 rfl h_58 dX4_comesJug_58 59 rfl ?_
          obtain ⟨h_59, hR⟩ := opt_n hR
          refine g_iast (f := (S.1 2)) C 2 rfl h_59 dX4_comesJug_59 (wMr g b (S.1 0 0) (S.1 0 1) (S.1 0 2) (S.1 0 3) (S.1 0 4) (S.1 0 5) (S.1 0 6) (S.1 0 7) (S.1 0 8) (S.1 0 9) (S.1 0 10) (S.1 0 11) (S.1 0 12) (S.1 0 13) (S.1 0 14) (S.1 1) (upd (S.1 2) (Int32.toNatClampNeg (S.1 0 0)) ((S.1 13) (Int32.toNatClampNeg p0))) (S.1 3) (S.1 4) (S.1 5) (S.1 6) (S.1 7) (S.1 8) (S.1 9) (S.1 10) (S.1 11) (S.1 12) (S.1 13) (S.1 14) (S.1 15) (S.1 16) (S.2 0) (S.2 1) (S.2 2)) rfl 60 rfl ?_
          refine g_aload_n C dX4_comesJug_60 rfl 61 rfl ?_
          refine g_get (v := .ref (b 3)) C (hiC hiA_4) 0 rfl rfl 2 (by decide) (List.mem_cons_of_mem _ wl_68) rfl rfl dX4_comesJug_61 64 rfl ?_
          refine g_aload_n C dX4_comesJug_64 rfl 65 rfl ?_
          refine g_get (v := .int (S.1 0 0)) C (hiC hiA_4) 0 rfl rfl 9 (by decide) (List.mem_cons_of_mem _ wl_239) rfl rfl dX4_comesJug_65 68 rfl ?_
          refine g_aload_n C dX4_comesJug_68 rfl 69 rfl ?_
          refine g_get (v := .ref (b 13)) C (hiC hiA_4) 0 rfl rfl 17 (by decide) (List.mem_cons_of_mem _ wl_78) rfl rfl dX4_comesJug_69 72 rfl ?_
          refine g_iload_n C dX4_comesJug_72 rfl 73 rfl ?_
          refine g_iconst C dX4_comesJug_73 1 ic_1 74 rfl ?_
          refine g_iadd C dX4_comesJug_74 75 rfl ?_
          obtain ⟨h_75, hR⟩ := opt_n hR
          refine g_iald (f := (S.1 13)) C 13 rfl h_75 dX4_comesJug_75 76 rfl ?_
          obtain ⟨h_76, hR⟩ := opt_n hR
          refine g_iast (f := (S.1 3)) C 3 rfl h_76 dX4_comesJug_76 (wMr g b (S.1 0 0) (S.1 0 1) (S.1 0 2) (S.1 0 3) (S.1 0 4) (S.1 0 5) (S.1 0 6) (S.1 0 7) (S.1 0 8) (S.1 0 9) (S.1 0 10) (S.1 0 11) (S.1 0 12) (S.1 0 13) (S.1 0 14) (S.1 1) (upd (S.1 2) (Int32.toNatClampNeg (S.1 0 0)) ((S.1 13) (Int32.toNatClampNeg p0))) (upd (S.1 3) (Int32.toNatClampNeg (S.1 0 0)) ((S.1 13) (Int32.toNatClampNeg (p0 + 1)))) (S.1 4) (S.1 5) (S.1 6) (S.1 7) (S.1 8) (S.1 9) (S.1 10) (S.1 11) (S.1 12) (S.1 13) (S.1 14) (S.1 15) (S.1 16) (S.2 0) (S.2 1) (S.2 2)) rfl 77 rfl ?_
          refine g_aload_n C dX4_comesJug_77 rfl 78 rfl ?_
          refine g_get (v := .ref (b 4)) C (hiC hiA_4) 0 rfl rfl 3 (by decide) (List.mem_cons_of_mem _ wl_69) rfl rfl dX4_comesJug_78 81 rfl ?_
          refine g_aload_n C dX4_comesJug_81 rfl 82 rfl ?_
          refine g_get (v := .int (S.1 0 0)) C (hiC hiA_4) 0 rfl rfl 9 (by decide) (List.mem_cons_of_mem _ wl_239) rfl rfl dX4_comesJug_82 85 rfl ?_
          refine g_aload_n C dX4_comesJug_85 rfl 86 rfl ?_
          refine g_get (v := .ref (b 13)) C (hiC hiA_4) 0 rfl rfl 17 (by decide) (List.mem_cons_of_mem _ wl_78) rfl rfl dX4_comesJug_86 89 rfl ?_
          refine g_iload_n C dX4_comesJug_89 rfl 90 rfl ?_
          refine g_iconst C dX4_comesJug_90 2 ic_2 91 rfl ?_
          refine g_iadd C dX4_comesJug_91 92 rfl ?_
          obtain ⟨h_92, hR⟩ := opt_n hR
          refine g_iald (f := (S.1 13)) C 13 rfl h_92 dX4_comesJug_92 93 rfl ?_
          obtain ⟨h_93, hR⟩ := opt_n hR
          refine g_iast (f := (S.1 4)) C 4 rfl h_93 dX4_comesJug_93 (wMr g b (S.1 0 0) (S.1 0 1) (S.1 0 2) (S.1 0 3) (S.1 0 4) (S.1 0 5) (S.1 0 6) (S.1 0 7) (S.1 0 8) (S.1 0 9) (S.1 0 10) (S.1 0 11) (S.1 0 12) (S.1 0 13) (S.1 0 14) (S.1 1) (upd (S.1 2) (Int32.toNatClampNeg (S.1 0 0)) ((S.1 13) (Int32.toNatClampNeg p0))) (upd (S.1 3) (Int32.toNatClampNeg (S.1 0 0)) ((S.1 13) (Int32.toNatClampNeg (p0 + 1)))) (upd (S.1 4) (Int32.toNatClampNeg (S.1 0 0)) ((S.1 13) (Int32.toNatClampNeg (p0 + 2)))) (S.1 5) (S.1 6) (S.1 7) (S.1 8) (S.1 9) (S.1 10) (S.1 11) (S.1 12) (S.1 13) (S.1 14) (S.1 15) (S.1 16) (S.2 0) (S.2 1) (S.2 2)) rfl 94 rfl ?_
          refine g_aload_n C dX4_comesJug_94 rfl 95 rfl ?_
          refine g_get (v := .ref (b 5)) C (hiC hiA_4) 0 rfl rfl 4 (by decide) (List.mem_cons_of_mem _ wl_70) rfl rfl dX4_comesJug_95 98 rfl ?_
          refine g_aload_n C dX4_comesJug_98 rfl 99 rfl ?_
          refine g_get (v := .int (S.1 0 0)) C (hiC hiA_4) 0 rfl rfl 9 (by decide) (List.mem_cons_of_mem _ wl_239) rfl rfl dX4_comesJug_99 102 rfl ?_
          refine g_aload_n C dX4_comesJug_102 rfl 103 rfl ?_
          refine g_get (v := .ref (b 13)) C (hiC hiA_4) 0 rfl rfl 17 (by decide) (List.mem_cons_of_mem _ wl_78) rfl rfl dX4_comesJug_103 106 rfl ?_
          refine g_iload_n C dX4_comesJug_106 rfl 107 rfl ?_
          refine g_iconst C dX4_comesJug_107 3 ic_3 108 rfl ?_
          refine g_iadd C dX4_comesJug_108 109 rfl ?_
          obtain ⟨h_109, hR⟩ := opt_n hR
          refine g_iald (f := (S.1 13)) C 13 rfl h_109 dX4_comesJug_109 110 rfl ?_
          obtain ⟨h_110, hR⟩ := opt_n hR
          refine g_iast (f := (S.1 5)) C 5 rfl h_110 dX4_comesJug_110 (wMr g b (S.1 0 0) (S.1 0 1) (S.1 0 2) (S.1 0 3) (S.1 0 4) (S.1 0 5) (S.1 0 6) (S.1 0 7) (S.1 0 8) (S.1 0 9) (S.1 0 10) (S.1 0 11) (S.1 0 12) (S.1 0 13) (S.1 0 14) (S.1 1) (upd (S.1 2) (Int32.toNatClampNeg (S.1 0 0)) ((S.1 13) (Int32.toNatClampNeg p0))) (upd (S.1 3) (Int32.toNatClampNeg (S.1 0 0)) ((S.1 13) (Int32.toNatClampNeg (p0 + 1)))) (upd (S.1 4) (Int32.toNatClampNeg (S.1 0 0)) ((S.1 13) (Int32.toNatClampNeg (p0 + 2)))) (upd (S.1 5) (Int32.toNatClampNeg (S.1 0 0)) ((S.1 13) (Int32.toNatClampNeg (p0 + 3)))) (S.1 6) (S.1 7) (S.1 8) (S.1 9) (S.1 10) (S.1 11) (S.1 12) (S.1 13) (S.1 14) (S.1 15) (S.1 16) (S.2 0) (S.2 1) (S.2 2)) rfl 111 rfl ?_
          refine g_aload_n C dX4_comesJug_111 rfl 112 rfl ?_
          refine g_dup C dX4_comesJug_112 rfl 113 rfl ?_
          refine g_get (v := .int (S.1 0 0)) C (hiC hiA_4) 0 rfl rfl 9 (by decide) (List.mem_cons_of_mem _ wl_239) rfl rfl dX4_comesJug_113 116 rfl ?_
          refine g_iconst C dX4_comesJug_116 1 ic_1 117 rfl ?_
          refine g_iadd C dX4_comesJug_117 118 rfl ?_
          refine g_put C (hiC hiA_4) tyX4 tyX4_ok nmX4 0 rfl rfl 9 (by decide) (List.mem_cons_of_mem _ wl_239) rfl rfl rfl rfl (Nat.le_of_ble_eq_true rfl) dX4_comesJug_118 (wMr g b ((S.1 0 0) + 1) (S.1 0 1) (S.1 0 2) (S.1 0 3) (S.1 0 4) (S.1 0 5) (S.1 0 6) (S.1 0 7) (S.1 0 8) (S.1 0 9) (S.1 0 10) (S.1 0 11) (S.1 0 12) (S.1 0 13) (S.1 0 14) (S.1 1) (upd (S.1 2) (Int32.toNatClampNeg (S.1 0 0)) ((S.1 13) (Int32.toNatClampNeg p0))) (upd (S.1 3) (Int32.toNatClampNeg (S.1 0 0)) ((S.1 13) (Int32.toNatClampNeg (p0 + 1)))) (upd (S.1 4) (Int32.toNatClampNeg (S.1 0 0)) ((S.1 13) (Int32.toNatClampNeg (p0 + 2)))) (upd (S.1 5) (Int32.toNatClampNeg (S.1 0 0)) ((S.1 13) (Int32.toNatClampNeg (p0 + 3)))) (S.1 6) (S.1 7) (S.1 8) (S.1 9) (S.1 10) (S.1 11) (S.1 12) (S.1 13) (S.1 14) (S.1 15) (S.1 16) (S.2 0) (S.2 1) (S.2 2)) rfl 121 rfl ?_
          refine g_iconst C dX4_comesJug_121 1 ic_1 122 rfl ?_
          obtain rfl := Option.some.inj hR
          exact g_zret C hr hlocks (by decide) hA rfl (by first | (dsimp only; done) | rfl) dX4_comesJug_122
        · refine g_iconst C dX4_comesJug_43 0 ic_0 44 rfl ?_
          obtain rfl := Option.some.inj hR
          exact g_zret C hr hlocks (by decide) hA rfl (by first | (dsimp only; done) | rfl) dX4_comesJug_44
theorem hd_X4_sees : yX4_sees.cls = RX4 ∧ yX4_sees.cls ≠ "java/lang/invoke/MethodHandle" ∧ yX4_sees.cls ≠ "java/lang/invoke/VarHandle" ∧ (parseMethodDescriptor yX4_sees.desc).map (fun d => d.parameters.length) = some 2 := by decide +kernel
def f_X4_sees (S : (Nat → Nat → Int32) × (Nat → Nat → Int64)) (p0 : Int32) (p1 : Int32) (N_ : Nat) : Option (((Nat → Nat → Int32) × (Nat → Nat → Int64))) :=
  if (S.1 0 2) < 0 ∨ 8 ≤ (Int32.toNatClampNeg (S.1 0 2)) then none else
  if (S.1 0 2) < 0 ∨ 8 ≤ (Int32.toNatClampNeg (S.1 0 2)) then none else
  some ((kS (kS (kS S.1 0 (upd (S.1 0) 2 ((S.1 0 2) + 1))) 7 (upd (S.1 7) (Int32.toNatClampNeg (S.1 0 2)) p0)) 8 (upd (S.1 8) (Int32.toNatClampNeg (S.1 0 2)) p1)), S.2)
set_option maxRecDepth 100000 in
set_option maxHeartbeats 4000000 in
theorem k_X4_sees (l : Launch) (g : gE) (b : Nat → Nat) (S : (Nat → Nat → Int32) × (Nat → Nat → Int64)) (p0 : Int32) (p1 : Int32) (N_ : Nat) (R_ : ((Nat → Nat → Int32) × (Nat → Nat → Int64))) (hR : f_X4_sees S p0 p1 N_ = some R_) : FnV l g yX4_sees wA_X4_sees { frames := 0, cells := 0, slots := 0, locals := 0 } [.ref (b 0), .int p0, .int p1] (wM g b S)  (wM g b R_) := by
  refine fEntry (As := [.ref (b 0), .int p0, .int p1]) (maxL := 3) (ret := none) (by decide) rfl [some (.ref (b 0)), some (.int p0), some (.int p1)] (Nat.le_of_ble_eq_true rfl) (lvInB.to (lvInB.sm (lvInB.sm (lvInB.sm lvInB.nil)))) ?_
  intro p e s m below meth c A C hr hlocks hname hA
  have C : Cx p s m _ c g A cX4_sees 3 wA_X4_sees RX4 := C
  rw [f_X4_sees] at hR
  refine g_aload_n C dX4_sees_0 rfl 1 rfl ?_
  refine g_get (v := .ref (b 7)) C (hiC hiA_4) 0 rfl rfl 6 (by decide) (List.mem_cons_of_mem _ wl_72) rfl rfl dX4_sees_1 4 rfl ?_
  refine g_aload_n C dX4_sees_4 rfl 5 rfl ?_
  refine g_get (v := .int (S.1 0 2)) C (hiC hiA_4) 0 rfl rfl 11 (by decide) (List.mem_cons_of_mem _ wl_241) rfl rfl dX4_sees_5 8 rfl ?_
  refine g_iload_n C dX4_sees_8 rfl 9 rfl ?_
  obtain ⟨h_9, hR⟩ := opt_n hR
  refine g_iast (f := (S.1 7)) C 7 rfl h_9 dX4_sees_9 (wMr g b (S.1 0 0) (S.1 0 1) (S.1 0 2) (S.1 0 3) (S.1 0 4) (S.1 0 5) (S.1 0 6) (S.1 0 7) (S.1 0 8) (S.1 0 9) (S.1 0 10) (S.1 0 11) (S.1 0 12) (S.1 0 13) (S.1 0 14) (S.1 1) (S.1 2) (S.1 3) (S.1 4) (S.1 5) (S.1 6) (upd (S.1 7) (Int32.toNatClampNeg (S.1 0 2)) p0) (S.1 8) (S.1 9) (S.1 10) (S.1 11) (S.1 12) (S.1 13) (S.1 14) (S.1 15) (S.1 16) (S.2 0) (S.2 1) (S.2 2)) rfl 10 rfl ?_
  refine g_aload_n C dX4_sees_10 rfl 11 rfl ?_
  refine g_get (v := .ref (b 8)) C (hiC hiA_4) 0 rfl rfl 7 (by decide) (List.mem_cons_of_mem _ wl_73) rfl rfl dX4_sees_11 14 rfl ?_
  refine g_aload_n C dX4_sees_14 rfl 15 rfl ?_
  refine g_get (v := .int (S.1 0 2)) C (hiC hiA_4) 0 rfl rfl 11 (by decide) (List.mem_cons_of_mem _ wl_241) rfl rfl dX4_sees_15 18 rfl ?_
  refine g_iload_n C dX4_sees_18 rfl 19 rfl ?_
  obtain ⟨h_19, hR⟩ := opt_n hR
  refine g_iast (f := (S.1 8)) C 8 rfl h_19 dX4_sees_19 (wMr g b (S.1 0 0) (S.1 0 1) (S.1 0 2) (S.1 0 3) (S.1 0 4) (S.1 0 5) (S.1 0 6) (S.1 0 7) (S.1 0 8) (S.1 0 9) (S.1 0 10) (S.1 0 11) (S.1 0 12) (S.1 0 13) (S.1 0 14) (S.1 1) (S.1 2) (S.1 3) (S.1 4) (S.1 5) (S.1 6) (upd (S.1 7) (Int32.toNatClampNeg (S.1 0 2)) p0) (upd (S.1 8) (Int32.toNatClampNeg (S.1 0 2)) p1) (S.1 9) (S.1 10) (S.1 11) (S.1 12) (S.1 13) (S.1 14) (S.1 15) (S.1 16) (S.2 0) (S.2 1) (S.2 2)) rfl 20 rfl ?_
  refine g_aload_n C dX4_sees_20 rfl 21 rfl ?_
  refine g_dup C dX4_sees_21 rfl 22 rfl ?_
  refine g_get (v := .int (S.1 0 2)) C (hiC hiA_4) 0 rfl rfl 11 (by decide) (List.mem_cons_of_mem _ wl_241) rfl rfl dX4_sees_22 25 rfl ?_
  refine g_iconst C dX4_sees_25 1 ic_1 26 rfl ?_
  refine g_iadd C dX4_sees_26 27 rfl ?_
  refine g_put C (hiC hiA_4) tyX4 tyX4_ok nmX4 0 rfl rfl 11 (by decide) (List.mem_cons_of_mem _ wl_241) rfl rfl rfl rfl (Nat.le_of_ble_eq_true rfl) dX4_sees_27 (wMr g b (S.1 0 0) (S.1 0 1) ((S.1 0 2) + 1) (S.1 0 3) (S.1 0 4) (S.1 0 5) (S.1 0 6) (S.1 0 7) (S.1 0 8) (S.1 0 9) (S.1 0 10) (S.1 0 11) (S.1 0 12) (S.1 0 13) (S.1 0 14) (S.1 1) (S.1 2) (S.1 3) (S.1 4) (S.1 5) (S.1 6) (upd (S.1 7) (Int32.toNatClampNeg (S.1 0 2)) p0) (upd (S.1 8) (Int32.toNatClampNeg (S.1 0 2)) p1) (S.1 9) (S.1 10) (S.1 11) (S.1 12) (S.1 13) (S.1 14) (S.1 15) (S.1 16) (S.2 0) (S.2 1) (S.2 2)) rfl 30 rfl ?_
  obtain rfl := Option.some.inj hR
  exact g_vret C hr hlocks hA (by first | (dsimp only; done) | rfl) dX4_sees_30
theorem hd_X4_comesSeen : yX4_comesSeen.cls = RX4 ∧ yX4_comesSeen.cls ≠ "java/lang/invoke/MethodHandle" ∧ yX4_comesSeen.cls ≠ "java/lang/invoke/VarHandle" ∧ (parseMethodDescriptor yX4_comesSeen.desc).map (fun d => d.parameters.length) = some 2 := by decide +kernel
def f_X4_comesSeen (S : (Nat → Nat → Int32) × (Nat → Nat → Int64)) (p0 : Int32) (p1 : Int32) (N_ : Nat) : Option (Bool × ((Nat → Nat → Int32) × (Nat → Nat → Int64))) :=
  if 4 ≤ p0 then
    some (false, S)
  else
    if 1 < p1 then
      some (false, S)
    else
      if (S.1 0 0) = 0 then
        some (false, S)
      else
        if (S.1 0 2) = 8 then
          some (false, S)
        else
          (f_X4_sees S p0 p1 N_).bind fun v1 =>
          some (true, v1)
set_option maxRecDepth 100000 in
set_option maxHeartbeats 4000000 in
theorem k_X4_comesSeen (l : Launch) (g : gE) (b : Nat → Nat) (S : (Nat → Nat → Int32) × (Nat → Nat → Int64)) (p0 : Int32) (p1 : Int32) (N_ : Nat) (R_ : Bool × ((Nat → Nat → Int32) × (Nat → Nat → Int64))) (hR : f_X4_comesSeen S p0 p1 N_ = some R_) : FnI l g yX4_comesSeen wA_X4_comesSeen { frames := 1, cells := 0, slots := 0, locals := 22 } [.ref (b 0), .int p0, .int p1] (wM g b S) (b2i R_.1) (wM g b R_.2) := by
  refine fEntry (As := [.ref (b 0), .int p0, .int p1]) (maxL := 3) (ret := (some .boolean)) (by decide) rfl [some (.ref (b 0)), some (.int p0), some (.int p1)] (Nat.le_of_ble_eq_true rfl) (lvInB.to (lvInB.sm (lvInB.sm (lvInB.sm lvInB.nil)))) ?_
  intro p e s m below meth c A C hr hlocks hname hA
  have C : Cx p s m _ c g A cX4_comesSeen 3 wA_X4_comesSeen RX4 := C
  rw [f_X4_comesSeen] at hR
  refine g_iload_n C dX4_comesSeen_0 rfl 1 rfl ?_
  refine g_iconst C dX4_comesSeen_1 4 ic_4 2 rfl ?_
  refine g_icmp_ge C dX4_comesSeen_2 hR 26 5 (by decide) rfl (fun c_2 hR => ?_) (fun c_2 hR => ?_)
  · refine g_iconst C dX4_comesSeen_26 0 ic_0 27 rfl ?_
    obtain rfl := Option.some.inj hR
    exact g_zret C hr hlocks (by decide) hA rfl (by first | (dsimp only; done) | rfl) dX4_comesSeen_27
  · refine g_iload_n C dX4_comesSeen_5 rfl 6 rfl ?_
    refine g_iconst C dX4_comesSeen_6 1 ic_1 7 rfl ?_
    refine g_icmp_gt C dX4_comesSeen_7 hR 26 10 (by decide) rfl (fun c_7 hR => ?_) (fun c_7 hR => ?_)
    · refine g_iconst C dX4_comesSeen_26 0 ic_0 27 rfl ?_
      obtain rfl := Option.some.inj hR
      exact g_zret C hr hlocks (by decide) hA rfl (by first | (dsimp only; done) | rfl) dX4_comesSeen_27
    · refine g_aload_n C dX4_comesSeen_10 rfl 11 rfl ?_
      refine g_get (v := .int (S.1 0 0)) C (hiC hiA_4) 0 rfl rfl 9 (by decide) (List.mem_cons_of_mem _ wl_239) rfl rfl dX4_comesSeen_11 14 rfl ?_
      refine g_if_eq C dX4_comesSeen_14 hR 26 17 (by decide) rfl (fun c_14 hR => ?_) (fun c_14 hR => ?_)
      · refine g_iconst C dX4_comesSeen_26 0 ic_0 27 rfl ?_
        obtain rfl := Option.some.inj hR
        exact g_zret C hr hlocks (by decide) hA rfl (by first | (dsimp only; done) | rfl) dX4_comesSeen_27
      · refine g_aload_n C dX4_comesSeen_17 rfl 18 rfl ?_
        refine g_get (v := .int (S.1 0 2)) C (hiC hiA_4) 0 rfl rfl 11 (by decide) (List.mem_cons_of_mem _ wl_241) rfl rfl dX4_comesSeen_18 21 rfl ?_
        refine g_bipush C dX4_comesSeen_21 8 bp_8 23 rfl ?_
        refine g_icmp_ne C dX4_comesSeen_23 hR 28 26 (by decide) rfl (fun c_23 hR => ?_) (fun c_23 hR => ?_)
        · refine g_aload_n C dX4_comesSeen_28 rfl 29 rfl ?_
          refine g_iload_n C dX4_comesSeen_29 rfl 30 rfl ?_
          refine g_iload_n C dX4_comesSeen_30 rfl 31 rfl ?_
          obtain ⟨v1, hv1, hR⟩ := opt_b hR
          refine g_callV C (rn_V C (k_X4_sees l g b S p0 p1 N_ v1 hv1) (cwV 2 C.1.2.2.2.2 (gdV wl_288 wl_285 wl_286 wl_287 wl_5) rfl rfl rfl hd_X4_sees ⟨Nat.le_of_ble_eq_true rfl, Nat.le_of_ble_eq_true rfl⟩) 0 rfl rfl _ rg_C rg_n rfl rfl (Nat.le_of_ble_eq_true rfl) ⟨Nat.zero_le _, Nat.zero_le _⟩ dX4_comesSeen_31) (wM g b v1) (rg_put (wM_len.trans wM_len.symm)) (rg_len (wM_len.trans wM_len.symm)) 34 rfl ?_
          refine g_iconst C dX4_comesSeen_34 1 ic_1 35 rfl ?_
          obtain rfl := Option.some.inj hR
          exact g_zret C hr hlocks (by decide) hA rfl (by first | (dsimp only; done) | rfl) dX4_comesSeen_35
        · refine g_iconst C dX4_comesSeen_26 0 ic_0 27 rfl ?_
          obtain rfl := Option.some.inj hR
          exact g_zret C hr hlocks (by decide) hA rfl (by first | (dsimp only; done) | rfl) dX4_comesSeen_27
theorem hd_X4_uses : yX4_uses.cls = RX4 ∧ yX4_uses.cls ≠ "java/lang/invoke/MethodHandle" ∧ yX4_uses.cls ≠ "java/lang/invoke/VarHandle" ∧ (parseMethodDescriptor yX4_uses.desc).map (fun d => d.parameters.length) = some 1 := by decide +kernel
def f_X4_uses_L44  (N_ : Nat) : Nat → Int32 → ((Nat → Nat → Int32) × (Nat → Nat → Int64)) → Option (Int32 × ((Nat → Nat → Int32) × (Nat → Nat → Int64)))
  | 0, _, _ => none
  | n_ + 1, x3, S =>
    if (S.1 0 0) ≤ x3 then
      some (x3, S)
    else
      if (x3 + 1) < 0 ∨ 5 ≤ (Int32.toNatClampNeg (x3 + 1)) then none else
      if x3 < 0 ∨ 5 ≤ (Int32.toNatClampNeg x3) then none else
      if (x3 + 1) < 0 ∨ 5 ≤ (Int32.toNatClampNeg (x3 + 1)) then none else
      if x3 < 0 ∨ 5 ≤ (Int32.toNatClampNeg x3) then none else
      if (x3 + 1) < 0 ∨ 5 ≤ (Int32.toNatClampNeg (x3 + 1)) then none else
      if x3 < 0 ∨ 5 ≤ (Int32.toNatClampNeg x3) then none else
      if (x3 + 1) < 0 ∨ 5 ≤ (Int32.toNatClampNeg (x3 + 1)) then none else
      if x3 < 0 ∨ 5 ≤ (Int32.toNatClampNeg x3) then none else
      f_X4_uses_L44 N_ n_ (x3 + 1) ((kS (kS (kS (kS S.1 2 (upd (S.1 2) (Int32.toNatClampNeg x3) ((S.1 2) (Int32.toNatClampNeg (x3 + 1))))) 3 (upd (S.1 3) (Int32.toNatClampNeg x3) ((S.1 3) (Int32.toNatClampNeg (x3 + 1))))) 4 (upd (S.1 4) (Int32.toNatClampNeg x3) ((S.1 4) (Int32.toNatClampNeg (x3 + 1))))) 5 (upd (S.1 5) (Int32.toNatClampNeg x3) ((S.1 5) (Int32.toNatClampNeg (x3 + 1))))), S.2)
set_option maxRecDepth 100000 in
set_option maxHeartbeats 4000000 in
theorem k_X4_uses_L44 (l : Launch) (g : gE) {p : Program} {e : Env} {s : State} {m : MethodId} {args : Array Value} {below : List Frame} {meth : Method} {c : Code} {Q : State → Prop} {A : Nat → Prop} {b : Nat → Nat}  (C : Cx p s m args c g A cX4_uses 4 wA_X4_uses RX4) (N_ : Nat) (x1 : Int32) (x2 : Int32) : ∀ (n_ : Nat) (x3 : Int32) (S : (Nat → Nat → Int32) × (Nat → Nat → Int64)) (rv_ : Int32 × ((Nat → Nat → Int32) × (Nat → Nat → Int64))), f_X4_uses_L44 N_ n_ x3 S = some rv_ → (Gm p l e (headSpec wA_X4_uses ({ frames := 0, cells := 0, slots := 0, locals := 0 } : Room)).room s m args below meth c Q g A 4 0 0 (wM g b rv_.2) [some (.ref (b 0)), some (.int x1), some (.int x2), some (.int rv_.1)] [] 114) → Gm p l e (headSpec wA_X4_uses ({ frames := 0, cells := 0, slots := 0, locals := 0 } : Room)).room s m args below meth c Q g A 4 0 0 (wM g b S) [some (.ref (b 0)), some (.int x1), some (.int x2), some (.int x3)] [] 44 := by
  intro n_
  induction n_ with
  | zero =>
    intro x3 S rv_ hR
    simp [f_X4_uses_L44] at hR
  | succ n_ ih =>
    intro x3 S rv_ hR hk
    rw [f_X4_uses_L44] at hR
    refine g_iload_n C dX4_uses_44 rfl 45 rfl ?_
    refine g_aload_n C dX4_uses_45 rfl 46 rfl ?_
    refine g_get (v := .int (S.1 0 0)) C (hiC hiA_4) 0 rfl rfl 9 (by decide) (List.mem_cons_of_mem _ wl_239) rfl rfl dX4_uses_46 49 rfl ?_
    refine g_icmp_ge C dX4_uses_49 hR 114 52 (by decide) rfl (fun c_49 hR => ?_) (fun c_49 hR => ?_)
    · obtain rfl := Option.some.inj hR
      refine g_lv [some (.ref (b 0)), some (.int x1), some (.int x2), some (.int x3)] (lvLe.sm (lvLe.sm (lvLe.sm (lvLe.sm lvLe.nil)))) ?_
      exact hk
    · refine g_aload_n C dX4_uses_52 rfl 53 rfl ?_
      refine g_get (v := .ref (b 2)) C (hiC hiA_4) 0 rfl rfl 1 (by decide) (List.mem_cons_of_mem _ wl_67) rfl rfl dX4_uses_53 56 rfl ?_
      refine g_iload_n C dX4_uses_56 rfl 57 rfl ?_
      refine g_aload_n C dX4_uses_57 rfl 58 rfl ?_
      refine g_get (v := .ref (b 2)) C (hiC hiA_4) 0 rfl rfl 1 (by decide) (List.mem_cons_of_mem _ wl_67) rfl rfl dX4_uses_58 61 rfl ?_
      refine g_iload_n C dX4_uses_61 rfl 62 rfl ?_
      refine g_iconst C dX4_uses_62 1 ic_1 63 rfl ?_
      refine g_iadd C dX4_uses_63 64 rfl ?_
      obtain ⟨h_64, hR⟩ := opt_n hR
      refine g_iald (f := (S.1 2)) C 2 rfl h_64 dX4_uses_64 65 rfl ?_
      obtain ⟨h_65, hR⟩ := opt_n hR
      refine g_iast (f := (S.1 2)) C 2 rfl h_65 dX4_uses_65 (wMr g b (S.1 0 0) (S.1 0 1) (S.1 0 2) (S.1 0 3) (S.1 0 4) (S.1 0 5) (S.1 0 6) (S.1 0 7) (S.1 0 8) (S.1 0 9) (S.1 0 10) (S.1 0 11) (S.1 0 12) (S.1 0 13) (S.1 0 14) (S.1 1) (upd (S.1 2) (Int32.toNatClampNeg x3) ((S.1 2) (Int32.toNatClampNeg (x3 + 1)))) (S.1 3) (S.1 4) (S.1 5) (S.1 6) (S.1 7) (S.1 8) (S.1 9) (S.1 10) (S.1 11) (S.1 12) (S.1 13) (S.1 14) (S.1 15) (S.1 16) (S.2 0) (S.2 1) (S.2 2)) rfl 66 rfl ?_
      refine g_aload_n C dX4_uses_66 rfl 67 rfl ?_
      refine g_get (v := .ref (b 3)) C (hiC hiA_4) 0 rfl rfl 2 (by decide) (List.mem_cons_of_mem _ wl_68) rfl rfl dX4_uses_67 70 rfl ?_
      refine g_iload_n C dX4_uses_70 rfl 71 rfl ?_
      refine g_aload_n C dX4_uses_71 rfl 72 rfl ?_
      refine g_get (v := .ref (b 3)) C (hiC hiA_4) 0 rfl rfl 2 (by decide) (List.mem_cons_of_mem _ wl_68) rfl rfl dX4_uses_72 75 rfl ?_
      refine g_iload_n C dX4_uses_75 rfl 76 rfl ?_
      refine g_iconst C dX4_uses_76 1 ic_1 77 rfl ?_
      refine g_iadd C dX4_uses_77 78 rfl ?_
      obtain ⟨h_78, hR⟩ := opt_n hR
      refine g_iald (f := (S.1 3)) C 3 rfl h_78 dX4_uses_78 79 rfl ?_
      obtain ⟨h_79, hR⟩ := opt_n hR
      refine g_iast (f := (S.1 3)) C 3 rfl h_79 dX4_uses_79 (wMr g b (S.1 0 0) (S.1 0 1) (S.1 0 2) (S.1 0 3) (S.1 0 4) (S.1 0 5) (S.1 0 6) (S.1 0 7) (S.1 0 8) (S.1 0 9) (S.1 0 10) (S.1 0 11) (S.1 0 12) (S.1 0 13) (S.1 0 14) (S.1 1) (upd (S.1 2) (Int32.toNatClampNeg x3) ((S.1 2) (Int32.toNatClampNeg (x3 + 1)))) (upd (S.1 3) (Int32.toNatClampNeg x3) ((S.1 3) (Int32.toNatClampNeg (x3 + 1)))) (S.1 4) (S.1 5) (S.1 6) (S.1 7) (S.1 8) (S.1 9) (S.1 10) (S.1 11) (S.1 12) (S.1 13) (S.1 14) (S.1 15) (S.1 16) (S.2 0) (S.2 1) (S.2 2)) rfl 80 rfl ?_
      refine g_aload_n C dX4_uses_80 rfl 81 rfl ?_
      refine g_get (v := .ref (b 4)) C (hiC hiA_4) 0 rfl rfl 3 (by decide) (List.mem_cons_of_mem _ wl_69) rfl rfl dX4_uses_81 84 rfl ?_
      refine g_iload_n C dX4_uses_84 rfl 85 rfl ?_
      refine g_aload_n C dX4_uses_85 rfl 86 rfl ?_
      refine g_get (v := .ref (b 4)) C (hiC hiA_4) 0 rfl rfl 3 (by decide) (List.mem_cons_of_mem _ wl_69) rfl rfl dX4_uses_86 89 rfl ?_
      refine g_iload_n C dX4_uses_89 rfl 90 rfl ?_
      refine g_iconst C dX4_uses_90 1 ic_1 91 rfl ?_
      refine g_iadd C dX4_uses_91 92 rfl ?_
      obtain ⟨h_92, hR⟩ := opt_n hR
      refine g_iald (f := (S.1 4)) C 4 rfl h_92 dX4_uses_92 93 rfl ?_
      obtain ⟨h_93, hR⟩ := opt_n hR
      refine g_iast (f := (S.1 4)) C 4 rfl h_93 dX4_uses_93 (wMr g b (S.1 0 0) (S.1 0 1) (S.1 0 2) (S.1 0 3) (S.1 0 4) (S.1 0 5) (S.1 0 6) (S.1 0 7) (S.1 0 8) (S.1 0 9) (S.1 0 10) (S.1 0 11) (S.1 0 12) (S.1 0 13) (S.1 0 14) (S.1 1) (upd (S.1 2) (Int32.toNatClampNeg x3) ((S.1 2) (Int32.toNatClampNeg (x3 + 1)))) (upd (S.1 3) (Int32.toNatClampNeg x3) ((S.1 3) (Int32.toNatClampNeg (x3 + 1)))) (upd (S.1 4) (Int32.toNatClampNeg x3) ((S.1 4) (Int32.toNatClampNeg (x3 + 1)))) (S.1 5) (S.1 6) (S.1 7) (S.1 8) (S.1 9) (S.1 10) (S.1 11) (S.1 12) (S.1 13) (S.1 14) (S.1 15) (S.1 16) (S.2 0) (S.2 1) (S.2 2)) rfl 94 rfl ?_
      refine g_aload_n C dX4_uses_94 rfl 95 rfl ?_
      refine g_get (v := .ref (b 5)) C (hiC hiA_4) 0 rfl rfl 4 (by decide) (List.mem_cons_of_mem _ wl_70) rfl rfl dX4_uses_95 98 rfl ?_
      refine g_iload_n C dX4_uses_98 rfl 99 rfl ?_
      refine g_aload_n C dX4_uses_99 rfl 100 rfl ?_
      refine g_get (v := .ref (b 5)) C (hiC hiA_4) 0 rfl rfl 4 (by decide) (List.mem_cons_of_mem _ wl_70) rfl rfl dX4_uses_100 103 rfl ?_
      refine g_iload_n C dX4_uses_103 rfl 104 rfl ?_
      refine g_iconst C dX4_uses_104 1 ic_1 105 rfl ?_
      refine g_iadd C dX4_uses_105 106 rfl ?_
      obtain ⟨h_106, hR⟩ := opt_n hR
      refine g_iald (f := (S.1 5)) C 5 rfl h_106 dX4_uses_106 107 rfl ?_
      obtain ⟨h_107, hR⟩ := opt_n hR
      refine g_iast (f := (S.1 5)) C 5 rfl h_107 dX4_uses_107 (wMr g b (S.1 0 0) (S.1 0 1) (S.1 0 2) (S.1 0 3) (S.1 0 4) (S.1 0 5) (S.1 0 6) (S.1 0 7) (S.1 0 8) (S.1 0 9) (S.1 0 10) (S.1 0 11) (S.1 0 12) (S.1 0 13) (S.1 0 14) (S.1 1) (upd (S.1 2) (Int32.toNatClampNeg x3) ((S.1 2) (Int32.toNatClampNeg (x3 + 1)))) (upd (S.1 3) (Int32.toNatClampNeg x3) ((S.1 3) (Int32.toNatClampNeg (x3 + 1)))) (upd (S.1 4) (Int32.toNatClampNeg x3) ((S.1 4) (Int32.toNatClampNeg (x3 + 1)))) (upd (S.1 5) (Int32.toNatClampNeg x3) ((S.1 5) (Int32.toNatClampNeg (x3 + 1)))) (S.1 6) (S.1 7) (S.1 8) (S.1 9) (S.1 10) (S.1 11) (S.1 12) (S.1 13) (S.1 14) (S.1 15) (S.1 16) (S.2 0) (S.2 1) (S.2 2)) rfl 108 rfl ?_
      refine g_iinc C dX4_uses_108 rfl 1 ic_1 [_, _, _, _] (Nat.le_of_ble_eq_true rfl) rfl rfl 111 rfl ?_
      refine g_goto C dX4_uses_111 44 (by decide) ?_
      refine g_lv [some (.ref (b 0)), some (.int x1), some (.int x2), some (.int (x3 + 1))] (lvLe.sm (lvLe.sm (lvLe.sm (lvLe.sm lvLe.nil)))) ?_
      exact ih _ _ rv_ hR hk
def f_X4_uses (S : (Nat → Nat → Int32) × (Nat → Nat → Int64)) (p0 : Int32) (N_ : Nat) : Option (Int32 × ((Nat → Nat → Int32) × (Nat → Nat → Int64))) :=
  if (S.1 0 1) < 0 ∨ 5 ≤ (Int32.toNatClampNeg (S.1 0 1)) then none else
  if (S.1 0 1) < 0 ∨ 5 ≤ (Int32.toNatClampNeg (S.1 0 1)) then none else
  if (S.1 0 1) < 0 ∨ 5 ≤ (Int32.toNatClampNeg (S.1 0 1)) then none else
  if ((upd (S.1 4) (Int32.toNatClampNeg (S.1 0 1)) (((S.1 4) (Int32.toNatClampNeg (S.1 0 1))) - p0)) (Int32.toNatClampNeg (S.1 0 1))) ≤ 0 then
    (f_X4_uses_L44 N_ N_ (S.1 0 1) ((kS (kS S.1 0 (upd (S.1 0) 0 ((S.1 0 0) - 1))) 4 (upd (S.1 4) (Int32.toNatClampNeg (S.1 0 1)) (((S.1 4) (Int32.toNatClampNeg (S.1 0 1))) - p0))), S.2)).bind fun v1 =>
    some (0, ((kS v1.2.1 0 (upd (upd (v1.2.1 0) 1 0) 2 0)), v1.2.2))
  else
    some (((upd (S.1 4) (Int32.toNatClampNeg (S.1 0 1)) (((S.1 4) (Int32.toNatClampNeg (S.1 0 1))) - p0)) (Int32.toNatClampNeg (S.1 0 1))), ((kS S.1 4 (upd (S.1 4) (Int32.toNatClampNeg (S.1 0 1)) (((S.1 4) (Int32.toNatClampNeg (S.1 0 1))) - p0))), S.2))
set_option maxRecDepth 100000 in
set_option maxHeartbeats 4000000 in
theorem k_X4_uses (l : Launch) (g : gE) (b : Nat → Nat) (S : (Nat → Nat → Int32) × (Nat → Nat → Int64)) (p0 : Int32) (N_ : Nat) (R_ : Int32 × ((Nat → Nat → Int32) × (Nat → Nat → Int64))) (hR : f_X4_uses S p0 N_ = some R_) : FnI l g yX4_uses wA_X4_uses { frames := 0, cells := 0, slots := 0, locals := 0 } [.ref (b 0), .int p0] (wM g b S) R_.1 (wM g b R_.2) := by
  refine fEntry (As := [.ref (b 0), .int p0]) (maxL := 4) (ret := (some .int)) (by decide) rfl [some (.ref (b 0)), some (.int p0), none, none] (Nat.le_of_ble_eq_true rfl) (lvInB.to (lvInB.sm (lvInB.sm (lvInB.nn (lvInB.nn lvInB.nil))))) ?_
  intro p e s m below meth c A C hr hlocks hname hA
  have C : Cx p s m _ c g A cX4_uses 4 wA_X4_uses RX4 := C
  rw [f_X4_uses] at hR
  refine g_aload_n C dX4_uses_0 rfl 1 rfl ?_
  refine g_get (v := .ref (b 4)) C (hiC hiA_4) 0 rfl rfl 3 (by decide) (List.mem_cons_of_mem _ wl_69) rfl rfl dX4_uses_1 4 rfl ?_
  refine g_aload_n C dX4_uses_4 rfl 5 rfl ?_
  refine g_get (v := .int (S.1 0 1)) C (hiC hiA_4) 0 rfl rfl 10 (by decide) (List.mem_cons_of_mem _ wl_240) rfl rfl dX4_uses_5 8 rfl ?_
  refine g_dup2 C dX4_uses_8 rfl rfl 9 rfl ?_
  obtain ⟨h_9, hR⟩ := opt_n hR
  refine g_iald (f := (S.1 4)) C 4 rfl h_9 dX4_uses_9 10 rfl ?_
  refine g_iload_n C dX4_uses_10 rfl 11 rfl ?_
  refine g_isub C dX4_uses_11 12 rfl ?_
  obtain ⟨h_12, hR⟩ := opt_n hR
  refine g_iast (f := (S.1 4)) C 4 rfl h_12 dX4_uses_12 (wMr g b (S.1 0 0) (S.1 0 1) (S.1 0 2) (S.1 0 3) (S.1 0 4) (S.1 0 5) (S.1 0 6) (S.1 0 7) (S.1 0 8) (S.1 0 9) (S.1 0 10) (S.1 0 11) (S.1 0 12) (S.1 0 13) (S.1 0 14) (S.1 1) (S.1 2) (S.1 3) (upd (S.1 4) (Int32.toNatClampNeg (S.1 0 1)) (((S.1 4) (Int32.toNatClampNeg (S.1 0 1))) - p0)) (S.1 5) (S.1 6) (S.1 7) (S.1 8) (S.1 9) (S.1 10) (S.1 11) (S.1 12) (S.1 13) (S.1 14) (S.1 15) (S.1 16) (S.2 0) (S.2 1) (S.2 2)) rfl 13 rfl ?_
  refine g_aload_n C dX4_uses_13 rfl 14 rfl ?_
  refine g_get (v := .ref (b 4)) C (hiC hiA_4) 0 rfl rfl 3 (by decide) (List.mem_cons_of_mem _ wl_69) rfl rfl dX4_uses_14 17 rfl ?_
  refine g_aload_n C dX4_uses_17 rfl 18 rfl ?_
  refine g_get (v := .int (S.1 0 1)) C (hiC hiA_4) 0 rfl rfl 10 (by decide) (List.mem_cons_of_mem _ wl_240) rfl rfl dX4_uses_18 21 rfl ?_
  obtain ⟨h_21, hR⟩ := opt_n hR
  refine g_iald (f := (upd (S.1 4) (Int32.toNatClampNeg (S.1 0 1)) (((S.1 4) (Int32.toNatClampNeg (S.1 0 1))) - p0))) C 4 rfl h_21 dX4_uses_21 22 rfl ?_
  refine g_istore_n C dX4_uses_22 [_, _, _, _] (Nat.le_of_ble_eq_true rfl) rfl rfl 23 rfl ?_
  refine g_iload_n C dX4_uses_23 rfl 24 rfl ?_
  refine g_if_le C dX4_uses_24 hR 29 27 (by decide) rfl (fun c_24 hR => ?_) (fun c_24 hR => ?_)
  · refine g_aload_n C dX4_uses_29 rfl 30 rfl ?_
    refine g_dup C dX4_uses_30 rfl 31 rfl ?_
    refine g_get (v := .int (S.1 0 0)) C (hiC hiA_4) 0 rfl rfl 9 (by decide) (List.mem_cons_of_mem _ wl_239) rfl rfl dX4_uses_31 34 rfl ?_
    refine g_iconst C dX4_uses_34 1 ic_1 35 rfl ?_
    refine g_isub C dX4_uses_35 36 rfl ?_
    refine g_put C (hiC hiA_4) tyX4 tyX4_ok nmX4 0 rfl rfl 9 (by decide) (List.mem_cons_of_mem _ wl_239) rfl rfl rfl rfl (Nat.le_of_ble_eq_true rfl) dX4_uses_36 (wMr g b ((S.1 0 0) - 1) (S.1 0 1) (S.1 0 2) (S.1 0 3) (S.1 0 4) (S.1 0 5) (S.1 0 6) (S.1 0 7) (S.1 0 8) (S.1 0 9) (S.1 0 10) (S.1 0 11) (S.1 0 12) (S.1 0 13) (S.1 0 14) (S.1 1) (S.1 2) (S.1 3) (upd (S.1 4) (Int32.toNatClampNeg (S.1 0 1)) (((S.1 4) (Int32.toNatClampNeg (S.1 0 1))) - p0)) (S.1 5) (S.1 6) (S.1 7) (S.1 8) (S.1 9) (S.1 10) (S.1 11) (S.1 12) (S.1 13) (S.1 14) (S.1 15) (S.1 16) (S.2 0) (S.2 1) (S.2 2)) rfl 39 rfl ?_
    refine g_aload_n C dX4_uses_39 rfl 40 rfl ?_
    refine g_get (v := .int (S.1 0 1)) C (hiC hiA_4) 0 rfl rfl 10 (by decide) (List.mem_cons_of_mem _ wl_240) rfl rfl dX4_uses_40 43 rfl ?_
    refine g_istore_n C dX4_uses_43 [_, _, _, _] (Nat.le_of_ble_eq_true rfl) rfl rfl 44 rfl ?_
    refine g_lv [some (.ref (b 0)), some (.int p0), some (.int ((upd (S.1 4) (Int32.toNatClampNeg (S.1 0 1)) (((S.1 4) (Int32.toNatClampNeg (S.1 0 1))) - p0)) (Int32.toNatClampNeg (S.1 0 1)))), some (.int (S.1 0 1))] (lvLe.sm (lvLe.sm (lvLe.sm (lvLe.sm lvLe.nil)))) ?_
    obtain ⟨v1, hv1, hR⟩ := opt_b hR
    refine k_X4_uses_L44 l g C N_ p0 ((upd (S.1 4) (Int32.toNatClampNeg (S.1 0 1)) (((S.1 4) (Int32.toNatClampNeg (S.1 0 1))) - p0)) (Int32.toNatClampNeg (S.1 0 1))) N_ (S.1 0 1) ((kS (kS S.1 0 (upd (S.1 0) 0 ((S.1 0 0) - 1))) 4 (upd (S.1 4) (Int32.toNatClampNeg (S.1 0 1)) (((S.1 4) (Int32.toNatClampNeg (S.1 0 1))) - p0))), S.2) _ hv1 ?_
    refine g_aload_n C dX4_uses_114 rfl 115 rfl ?_
    refine g_iconst C dX4_uses_115 0 ic_0 116 rfl ?_
    refine g_put C (hiC hiA_4) tyX4 tyX4_ok nmX4 0 rfl rfl 10 (by decide) (List.mem_cons_of_mem _ wl_240) rfl rfl rfl rfl (Nat.le_of_ble_eq_true rfl) dX4_uses_116 (wMr g b (v1.2.1 0 0) 0 (v1.2.1 0 2) (v1.2.1 0 3) (v1.2.1 0 4) (v1.2.1 0 5) (v1.2.1 0 6) (v1.2.1 0 7) (v1.2.1 0 8) (v1.2.1 0 9) (v1.2.1 0 10) (v1.2.1 0 11) (v1.2.1 0 12) (v1.2.1 0 13) (v1.2.1 0 14) (v1.2.1 1) (v1.2.1 2) (v1.2.1 3) (v1.2.1 4) (v1.2.1 5) (v1.2.1 6) (v1.2.1 7) (v1.2.1 8) (v1.2.1 9) (v1.2.1 10) (v1.2.1 11) (v1.2.1 12) (v1.2.1 13) (v1.2.1 14) (v1.2.1 15) (v1.2.1 16) (v1.2.2 0) (v1.2.2 1) (v1.2.2 2)) rfl 119 rfl ?_
    refine g_aload_n C dX4_uses_119 rfl 120 rfl ?_
    refine g_iconst C dX4_uses_120 0 ic_0 121 rfl ?_
    refine g_put C (hiC hiA_4) tyX4 tyX4_ok nmX4 0 rfl rfl 11 (by decide) (List.mem_cons_of_mem _ wl_241) rfl rfl rfl rfl (Nat.le_of_ble_eq_true rfl) dX4_uses_121 (wMr g b (v1.2.1 0 0) 0 0 (v1.2.1 0 3) (v1.2.1 0 4) (v1.2.1 0 5) (v1.2.1 0 6) (v1.2.1 0 7) (v1.2.1 0 8) (v1.2.1 0 9) (v1.2.1 0 10) (v1.2.1 0 11) (v1.2.1 0 12) (v1.2.1 0 13) (v1.2.1 0 14) (v1.2.1 1) (v1.2.1 2) (v1.2.1 3) (v1.2.1 4) (v1.2.1 5) (v1.2.1 6) (v1.2.1 7) (v1.2.1 8) (v1.2.1 9) (v1.2.1 10) (v1.2.1 11) (v1.2.1 12) (v1.2.1 13) (v1.2.1 14) (v1.2.1 15) (v1.2.1 16) (v1.2.2 0) (v1.2.2 1) (v1.2.2 2)) rfl 124 rfl ?_
    refine g_iconst C dX4_uses_124 0 ic_0 125 rfl ?_
    obtain rfl := Option.some.inj hR
    exact g_iret C hr hlocks hA (by first | (dsimp only; done) | rfl) (by first | (dsimp only; done) | rfl) dX4_uses_125
  · refine g_iload_n C dX4_uses_27 rfl 28 rfl ?_
    obtain rfl := Option.some.inj hR
    exact g_iret C hr hlocks hA (by first | (dsimp only; done) | rfl) (by first | (dsimp only; done) | rfl) dX4_uses_28
theorem hd_X4_comesUse : yX4_comesUse.cls = RX4 ∧ yX4_comesUse.cls ≠ "java/lang/invoke/MethodHandle" ∧ yX4_comesUse.cls ≠ "java/lang/invoke/VarHandle" ∧ (parseMethodDescriptor yX4_comesUse.desc).map (fun d => d.parameters.length) = some 1 := by decide +kernel
def f_X4_comesUse (S : (Nat → Nat → Int32) × (Nat → Nat → Int64)) (p0 : Int32) (N_ : Nat) : Option (Bool × ((Nat → Nat → Int32) × (Nat → Nat → Int64))) :=
  if (S.1 0 0) = 0 then
    some (false, S)
  else
    if p0 = 0 then
      some (false, S)
    else
      if (S.1 0 1) < 0 ∨ 5 ≤ (Int32.toNatClampNeg (S.1 0 1)) then none else
      if p0 ≤ ((S.1 4) (Int32.toNatClampNeg (S.1 0 1))) then
        (f_X4_uses S p0 N_).bind fun v1 =>
        some (true, v1.2)
      else
        some (false, S)
set_option maxRecDepth 100000 in
set_option maxHeartbeats 4000000 in
theorem k_X4_comesUse (l : Launch) (g : gE) (b : Nat → Nat) (S : (Nat → Nat → Int32) × (Nat → Nat → Int64)) (p0 : Int32) (N_ : Nat) (R_ : Bool × ((Nat → Nat → Int32) × (Nat → Nat → Int64))) (hR : f_X4_comesUse S p0 N_ = some R_) : FnI l g yX4_comesUse wA_X4_comesUse { frames := 1, cells := 0, slots := 0, locals := 23 } [.ref (b 0), .int p0] (wM g b S) (b2i R_.1) (wM g b R_.2) := by
  refine fEntry (As := [.ref (b 0), .int p0]) (maxL := 2) (ret := (some .boolean)) (by decide) rfl [some (.ref (b 0)), some (.int p0)] (Nat.le_of_ble_eq_true rfl) (lvInB.to (lvInB.sm (lvInB.sm lvInB.nil))) ?_
  intro p e s m below meth c A C hr hlocks hname hA
  have C : Cx p s m _ c g A cX4_comesUse 2 wA_X4_comesUse RX4 := C
  rw [f_X4_comesUse] at hR
  refine g_aload_n C dX4_comesUse_0 rfl 1 rfl ?_
  refine g_get (v := .int (S.1 0 0)) C (hiC hiA_4) 0 rfl rfl 9 (by decide) (List.mem_cons_of_mem _ wl_239) rfl rfl dX4_comesUse_1 4 rfl ?_
  refine g_if_eq C dX4_comesUse_4 hR 24 7 (by decide) rfl (fun c_4 hR => ?_) (fun c_4 hR => ?_)
  · refine g_iconst C dX4_comesUse_24 0 ic_0 25 rfl ?_
    obtain rfl := Option.some.inj hR
    exact g_zret C hr hlocks (by decide) hA rfl (by first | (dsimp only; done) | rfl) dX4_comesUse_25
  · refine g_iload_n C dX4_comesUse_7 rfl 8 rfl ?_
    refine g_if_eq C dX4_comesUse_8 hR 24 11 (by decide) rfl (fun c_8 hR => ?_) (fun c_8 hR => ?_)
    · refine g_iconst C dX4_comesUse_24 0 ic_0 25 rfl ?_
      obtain rfl := Option.some.inj hR
      exact g_zret C hr hlocks (by decide) hA rfl (by first | (dsimp only; done) | rfl) dX4_comesUse_25
    · refine g_iload_n C dX4_comesUse_11 rfl 12 rfl ?_
      refine g_aload_n C dX4_comesUse_12 rfl 13 rfl ?_
      refine g_get (v := .ref (b 4)) C (hiC hiA_4) 0 rfl rfl 3 (by decide) (List.mem_cons_of_mem _ wl_69) rfl rfl dX4_comesUse_13 16 rfl ?_
      refine g_aload_n C dX4_comesUse_16 rfl 17 rfl ?_
      refine g_get (v := .int (S.1 0 1)) C (hiC hiA_4) 0 rfl rfl 10 (by decide) (List.mem_cons_of_mem _ wl_240) rfl rfl dX4_comesUse_17 20 rfl ?_
      obtain ⟨h_20, hR⟩ := opt_n hR
      refine g_iald (f := (S.1 4)) C 4 rfl h_20 dX4_comesUse_20 21 rfl ?_
      refine g_icmp_le C dX4_comesUse_21 hR 26 24 (by decide) rfl (fun c_21 hR => ?_) (fun c_21 hR => ?_)
      · refine g_aload_n C dX4_comesUse_26 rfl 27 rfl ?_
        refine g_iload_n C dX4_comesUse_27 rfl 28 rfl ?_
        obtain ⟨v1, hv1, hR⟩ := opt_b hR
        refine g_callI C (rn_V C (k_X4_uses l g b S p0 N_ v1 hv1) (cwV 1 C.1.2.2.2.2 (gdV wl_296 wl_293 wl_294 wl_295 wl_5) rfl rfl rfl hd_X4_uses ⟨Nat.le_of_ble_eq_true rfl, Nat.le_of_ble_eq_true rfl⟩) 0 rfl rfl _ rg_C rg_n rfl rfl (Nat.le_of_ble_eq_true rfl) ⟨Nat.zero_le _, Nat.zero_le _⟩ dX4_comesUse_28) (wM g b v1.2) (rg_put (wM_len.trans wM_len.symm)) (rg_len (wM_len.trans wM_len.symm)) 31 rfl ?_
        refine g_pop C dX4_comesUse_31 rfl 32 rfl ?_
        refine g_iconst C dX4_comesUse_32 1 ic_1 33 rfl ?_
        obtain rfl := Option.some.inj hR
        exact g_zret C hr hlocks (by decide) hA rfl (by first | (dsimp only; done) | rfl) dX4_comesUse_33
      · refine g_iconst C dX4_comesUse_24 0 ic_0 25 rfl ?_
        obtain rfl := Option.some.inj hR
        exact g_zret C hr hlocks (by decide) hA rfl (by first | (dsimp only; done) | rfl) dX4_comesUse_25
theorem hd_X4_warmOf : yX4_warmOf.cls = RX4 ∧ yX4_warmOf.cls ≠ "java/lang/invoke/MethodHandle" ∧ yX4_warmOf.cls ≠ "java/lang/invoke/VarHandle" ∧ (parseMethodDescriptor yX4_warmOf.desc).map (fun d => d.parameters.length) = some 1 := by decide +kernel
def f_X4_warmOf (S : (Nat → Nat → Int32) × (Nat → Nat → Int64)) (p0 : Int32) (N_ : Nat) : Option (Int32) :=
  if p0 < 0 ∨ 5 ≤ (Int32.toNatClampNeg p0) then none else
  if ((S.1 2) (Int32.toNatClampNeg p0)) = 1 then
    some 12
  else
    if ((S.1 2) (Int32.toNatClampNeg p0)) = 2 then
      some 4
    else
      if ((S.1 2) (Int32.toNatClampNeg p0)) = 3 then
        if p0 < 0 ∨ 5 ≤ (Int32.toNatClampNeg p0) then none else
        some (6 - (((S.1 3) (Int32.toNatClampNeg p0)) / 2))
      else
        if ((S.1 2) (Int32.toNatClampNeg p0)) = 4 then
          if p0 < 0 ∨ 5 ≤ (Int32.toNatClampNeg p0) then none else
          some (4 + ((S.1 3) (Int32.toNatClampNeg p0)))
        else
          if ((S.1 2) (Int32.toNatClampNeg p0)) = 5 then
            some 3
          else
            some 6
set_option maxRecDepth 100000 in
set_option maxHeartbeats 4000000 in
theorem k_X4_warmOf (l : Launch) (g : gE) (b : Nat → Nat) (S : (Nat → Nat → Int32) × (Nat → Nat → Int64)) (p0 : Int32) (N_ : Nat) (R_ : Int32) (hR : f_X4_warmOf S p0 N_ = some R_) : FnI l g yX4_warmOf wA_X4_warmOf { frames := 0, cells := 0, slots := 0, locals := 0 } [.ref (b 0), .int p0] (wM g b S) R_ (wM g b S) := by
  refine fEntry (As := [.ref (b 0), .int p0]) (maxL := 2) (ret := (some .int)) (by decide) rfl [some (.ref (b 0)), some (.int p0)] (Nat.le_of_ble_eq_true rfl) (lvInB.to (lvInB.sm (lvInB.sm lvInB.nil))) ?_
  intro p e s m below meth c A C hr hlocks hname hA
  have C : Cx p s m _ c g A cX4_warmOf 2 wA_X4_warmOf RX4 := C
  rw [f_X4_warmOf] at hR
  refine g_aload_n C dX4_warmOf_0 rfl 1 rfl ?_
  refine g_get (v := .ref (b 2)) C (hiC hiA_4) 0 rfl rfl 1 (by decide) (List.mem_cons_of_mem _ wl_67) rfl rfl dX4_warmOf_1 4 rfl ?_
  refine g_iload_n C dX4_warmOf_4 rfl 5 rfl ?_
  obtain ⟨h_5, hR⟩ := opt_n hR
  refine g_iald (f := (S.1 2)) C 2 rfl h_5 dX4_warmOf_5 6 rfl ?_
  rcases Decidable.em (((S.1 2) (Int32.toNatClampNeg p0)) = 1) with c_6_1 | c_6_1
  · have hR := (if_pos c_6_1).symm.trans hR
    refine g_tableIn C dX4_warmOf_6 1 c_6_1 (34) 40 (by decide) ?_
    refine g_bipush C dX4_warmOf_40 12 bp_12 42 rfl ?_
    obtain rfl := Option.some.inj hR
    exact g_iret C hr hlocks hA (by first | (dsimp only; done) | rfl) (by first | (dsimp only; done) | rfl) dX4_warmOf_42
  · have hR := (if_neg c_6_1).symm.trans hR
    rcases Decidable.em (((S.1 2) (Int32.toNatClampNeg p0)) = 2) with c_6_2 | c_6_2
    · have hR := (if_pos c_6_2).symm.trans hR
      refine g_tableIn C dX4_warmOf_6 2 c_6_2 (37) 43 (by decide) ?_
      refine g_iconst C dX4_warmOf_43 4 ic_4 44 rfl ?_
      obtain rfl := Option.some.inj hR
      exact g_iret C hr hlocks hA (by first | (dsimp only; done) | rfl) (by first | (dsimp only; done) | rfl) dX4_warmOf_44
    · have hR := (if_neg c_6_2).symm.trans hR
      rcases Decidable.em (((S.1 2) (Int32.toNatClampNeg p0)) = 3) with c_6_3 | c_6_3
      · have hR := (if_pos c_6_3).symm.trans hR
        refine g_tableIn C dX4_warmOf_6 3 c_6_3 (39) 45 (by decide) ?_
        refine g_bipush C dX4_warmOf_45 6 bp_6 47 rfl ?_
        refine g_aload_n C dX4_warmOf_47 rfl 48 rfl ?_
        refine g_get (v := .ref (b 3)) C (hiC hiA_4) 0 rfl rfl 2 (by decide) (List.mem_cons_of_mem _ wl_68) rfl rfl dX4_warmOf_48 51 rfl ?_
        refine g_iload_n C dX4_warmOf_51 rfl 52 rfl ?_
        obtain ⟨h_52, hR⟩ := opt_n hR
        refine g_iald (f := (S.1 3)) C 3 rfl h_52 dX4_warmOf_52 53 rfl ?_
        refine g_iconst C dX4_warmOf_53 2 ic_2 54 rfl ?_
        refine g_idiv C dX4_warmOf_54 (by decide) 55 rfl ?_
        refine g_isub C dX4_warmOf_55 56 rfl ?_
        obtain rfl := Option.some.inj hR
        exact g_iret C hr hlocks hA (by first | (dsimp only; done) | rfl) (by first | (dsimp only; done) | rfl) dX4_warmOf_56
      · have hR := (if_neg c_6_3).symm.trans hR
        rcases Decidable.em (((S.1 2) (Int32.toNatClampNeg p0)) = 4) with c_6_4 | c_6_4
        · have hR := (if_pos c_6_4).symm.trans hR
          refine g_tableIn C dX4_warmOf_6 4 c_6_4 (51) 57 (by decide) ?_
          refine g_iconst C dX4_warmOf_57 4 ic_4 58 rfl ?_
          refine g_aload_n C dX4_warmOf_58 rfl 59 rfl ?_
          refine g_get (v := .ref (b 3)) C (hiC hiA_4) 0 rfl rfl 2 (by decide) (List.mem_cons_of_mem _ wl_68) rfl rfl dX4_warmOf_59 62 rfl ?_
          refine g_iload_n C dX4_warmOf_62 rfl 63 rfl ?_
          obtain ⟨h_63, hR⟩ := opt_n hR
          refine g_iald (f := (S.1 3)) C 3 rfl h_63 dX4_warmOf_63 64 rfl ?_
          refine g_iadd C dX4_warmOf_64 65 rfl ?_
          obtain rfl := Option.some.inj hR
          exact g_iret C hr hlocks hA (by first | (dsimp only; done) | rfl) (by first | (dsimp only; done) | rfl) dX4_warmOf_65
        · have hR := (if_neg c_6_4).symm.trans hR
          rcases Decidable.em (((S.1 2) (Int32.toNatClampNeg p0)) = 5) with c_6_5 | c_6_5
          · have hR := (if_pos c_6_5).symm.trans hR
            refine g_tableIn C dX4_warmOf_6 5 c_6_5 (60) 66 (by decide) ?_
            refine g_iconst C dX4_warmOf_66 3 ic_3 67 rfl ?_
            obtain rfl := Option.some.inj hR
            exact g_iret C hr hlocks hA (by first | (dsimp only; done) | rfl) (by first | (dsimp only; done) | rfl) dX4_warmOf_67
          · have hR := (if_neg c_6_5).symm.trans hR
            refine g_tableD C dX4_warmOf_6 [1, 2, 3, 4, 5] (ne_c c_6_1 (ne_c c_6_2 (ne_c c_6_3 (ne_c c_6_4 (ne_c c_6_5 ne_n))))) (by decide +kernel) (by decide +kernel) 68 (by decide) ?_
            refine g_bipush C dX4_warmOf_68 6 bp_6 70 rfl ?_
            obtain rfl := Option.some.inj hR
            exact g_iret C hr hlocks hA (by first | (dsimp only; done) | rfl) (by first | (dsimp only; done) | rfl) dX4_warmOf_70
theorem hd_X4_gains : yX4_gains.cls = RX4 ∧ yX4_gains.cls ≠ "java/lang/invoke/MethodHandle" ∧ yX4_gains.cls ≠ "java/lang/invoke/VarHandle" ∧ (parseMethodDescriptor yX4_gains.desc).map (fun d => d.parameters.length) = some 2 := by decide +kernel
def f_X4_gains (S : (Nat → Nat → Int32) × (Nat → Nat → Int64)) (p0 : Int32) (p1 : Int32) (N_ : Nat) : Option (((Nat → Nat → Int32) × (Nat → Nat → Int64))) :=
  if p0 < 0 ∨ 5 ≤ (Int32.toNatClampNeg p0) then none else
  if p0 < 0 ∨ 5 ≤ (Int32.toNatClampNeg p0) then none else
  some ((kS S.1 5 (upd (S.1 5) (Int32.toNatClampNeg p0) (f_X4_heldPoints (((S.1 5) (Int32.toNatClampNeg p0)) + p1)))), S.2)
set_option maxRecDepth 100000 in
set_option maxHeartbeats 4000000 in
theorem k_X4_gains (l : Launch) (g : gE) (b : Nat → Nat) (S : (Nat → Nat → Int32) × (Nat → Nat → Int64)) (p0 : Int32) (p1 : Int32) (N_ : Nat) (R_ : ((Nat → Nat → Int32) × (Nat → Nat → Int64))) (hR : f_X4_gains S p0 p1 N_ = some R_) : FnV l g yX4_gains wA_X4_gains { frames := 1, cells := 0, slots := 0, locals := 20 } [.ref (b 0), .int p0, .int p1] (wM g b S)  (wM g b R_) := by
  refine fEntry (As := [.ref (b 0), .int p0, .int p1]) (maxL := 3) (ret := none) (by decide) rfl [some (.ref (b 0)), some (.int p0), some (.int p1)] (Nat.le_of_ble_eq_true rfl) (lvInB.to (lvInB.sm (lvInB.sm (lvInB.sm lvInB.nil)))) ?_
  intro p e s m below meth c A C hr hlocks hname hA
  have C : Cx p s m _ c g A cX4_gains 3 wA_X4_gains RX4 := C
  rw [f_X4_gains] at hR
  refine g_aload_n C dX4_gains_0 rfl 1 rfl ?_
  refine g_get (v := .ref (b 5)) C (hiC hiA_4) 0 rfl rfl 4 (by decide) (List.mem_cons_of_mem _ wl_70) rfl rfl dX4_gains_1 4 rfl ?_
  refine g_iload_n C dX4_gains_4 rfl 5 rfl ?_
  refine g_aload_n C dX4_gains_5 rfl 6 rfl ?_
  refine g_get (v := .ref (b 5)) C (hiC hiA_4) 0 rfl rfl 4 (by decide) (List.mem_cons_of_mem _ wl_70) rfl rfl dX4_gains_6 9 rfl ?_
  refine g_iload_n C dX4_gains_9 rfl 10 rfl ?_
  obtain ⟨h_10, hR⟩ := opt_n hR
  refine g_iald (f := (S.1 5)) C 5 rfl h_10 dX4_gains_10 11 rfl ?_
  refine g_iload_n C dX4_gains_11 rfl 12 rfl ?_
  refine g_iadd C dX4_gains_12 13 rfl ?_
  refine g_callIR C (rn_S C (k_X4_heldPoints l g (((S.1 5) (Int32.toNatClampNeg p0)) + p1)) (va_cwS 1 C.1.2.2.2.2 (gdS wl_272 wl_270 wl_271 wl_5) rfl rfl rfl hd_X4_heldPoints.2 ⟨Nat.le_of_ble_eq_true rfl, Nat.le_of_ble_eq_true rfl⟩) [] rfl rfl rfl rfl (Nat.le_of_ble_eq_true rfl) ⟨Nat.zero_le _, Nat.zero_le _⟩ dX4_gains_13) 16 rfl ?_
  obtain ⟨h_16, hR⟩ := opt_n hR
  refine g_iast (f := (S.1 5)) C 5 rfl h_16 dX4_gains_16 (wMr g b (S.1 0 0) (S.1 0 1) (S.1 0 2) (S.1 0 3) (S.1 0 4) (S.1 0 5) (S.1 0 6) (S.1 0 7) (S.1 0 8) (S.1 0 9) (S.1 0 10) (S.1 0 11) (S.1 0 12) (S.1 0 13) (S.1 0 14) (S.1 1) (S.1 2) (S.1 3) (S.1 4) (upd (S.1 5) (Int32.toNatClampNeg p0) (f_X4_heldPoints (((S.1 5) (Int32.toNatClampNeg p0)) + p1))) (S.1 6) (S.1 7) (S.1 8) (S.1 9) (S.1 10) (S.1 11) (S.1 12) (S.1 13) (S.1 14) (S.1 15) (S.1 16) (S.2 0) (S.2 1) (S.2 2)) rfl 17 rfl ?_
  obtain rfl := Option.some.inj hR
  exact g_vret C hr hlocks hA (by first | (dsimp only; done) | rfl) dX4_gains_17
theorem hd_X4_allStand : yX4_allStand.cls = RX4 ∧ yX4_allStand.cls ≠ "java/lang/invoke/MethodHandle" ∧ yX4_allStand.cls ≠ "java/lang/invoke/VarHandle" ∧ (parseMethodDescriptor yX4_allStand.desc).map (fun d => d.parameters.length) = some 1 := by decide +kernel
def f_X4_allStand_L2 (x1 : Int32) (N_ : Nat) : Nat → Int32 → ((Nat → Nat → Int32) × (Nat → Nat → Int64)) → Option (Int32 × ((Nat → Nat → Int32) × (Nat → Nat → Int64)))
  | 0, _, _ => none
  | n_ + 1, x2, S =>
    if (S.1 0 0) ≤ x2 then
      some (x2, S)
    else
      if x2 < 0 ∨ 5 ≤ (Int32.toNatClampNeg x2) then none else
      (f_X4_gains S x2 ((f_X4_coldOf ((S.1 2) (Int32.toNatClampNeg x2))) * x1) N_).bind fun v3 =>
      f_X4_allStand_L2 x1 N_ n_ (x2 + 1) v3
set_option maxRecDepth 100000 in
set_option maxHeartbeats 4000000 in
theorem k_X4_allStand_L2 (l : Launch) (g : gE) {p : Program} {e : Env} {s : State} {m : MethodId} {args : Array Value} {below : List Frame} {meth : Method} {c : Code} {Q : State → Prop} {A : Nat → Prop} {b : Nat → Nat}  (C : Cx p s m args c g A cX4_allStand 3 wA_X4_allStand RX4) (N_ : Nat) (x1 : Int32) : ∀ (n_ : Nat) (x2 : Int32) (S : (Nat → Nat → Int32) × (Nat → Nat → Int64)) (rv_ : Int32 × ((Nat → Nat → Int32) × (Nat → Nat → Int64))), f_X4_allStand_L2 x1 N_ n_ x2 S = some rv_ → (Gm p l e (headSpec wA_X4_allStand ({ frames := 2, cells := 0, slots := 0, locals := 42 } : Room)).room s m args below meth c Q g A 3 0 0 (wM g b rv_.2) [some (.ref (b 0)), some (.int x1), some (.int rv_.1)] [] 32) → Gm p l e (headSpec wA_X4_allStand ({ frames := 2, cells := 0, slots := 0, locals := 42 } : Room)).room s m args below meth c Q g A 3 0 0 (wM g b S) [some (.ref (b 0)), some (.int x1), some (.int x2)] [] 2 := by
  intro n_
  induction n_ with
  | zero =>
    intro x2 S rv_ hR
    simp [f_X4_allStand_L2] at hR
  | succ n_ ih =>
    intro x2 S rv_ hR hk
    rw [f_X4_allStand_L2] at hR
    refine g_iload_n C dX4_allStand_2 rfl 3 rfl ?_
    refine g_aload_n C dX4_allStand_3 rfl 4 rfl ?_
    refine g_get (v := .int (S.1 0 0)) C (hiC hiA_4) 0 rfl rfl 9 (by decide) (List.mem_cons_of_mem _ wl_239) rfl rfl dX4_allStand_4 7 rfl ?_
    refine g_icmp_ge C dX4_allStand_7 hR 32 10 (by decide) rfl (fun c_7 hR => ?_) (fun c_7 hR => ?_)
    · obtain rfl := Option.some.inj hR
      refine g_lv [some (.ref (b 0)), some (.int x1), some (.int x2)] (lvLe.sm (lvLe.sm (lvLe.sm lvLe.nil))) ?_
      exact hk
    · refine g_aload_n C dX4_allStand_10 rfl 11 rfl ?_
      refine g_iload_n C dX4_allStand_11 rfl 12 rfl ?_
      refine g_aload_n C dX4_allStand_12 rfl 13 rfl ?_
      refine g_get (v := .ref (b 2)) C (hiC hiA_4) 0 rfl rfl 1 (by decide) (List.mem_cons_of_mem _ wl_67) rfl rfl dX4_allStand_13 16 rfl ?_
      refine g_iload_n C dX4_allStand_16 rfl 17 rfl ?_
      obtain ⟨h_17, hR⟩ := opt_n hR
      refine g_iald (f := (S.1 2)) C 2 rfl h_17 dX4_allStand_17 18 rfl ?_
      refine g_callIR C (rn_S C (k_X4_coldOf l g ((S.1 2) (Int32.toNatClampNeg x2))) (va_cwS 1 C.1.2.2.2.2 (gdS wl_265 wl_263 wl_264 wl_5) rfl rfl rfl hd_X4_coldOf.2 ⟨Nat.le_of_ble_eq_true rfl, Nat.le_of_ble_eq_true rfl⟩) [] rfl rfl rfl rfl (Nat.le_of_ble_eq_true rfl) ⟨Nat.zero_le _, Nat.zero_le _⟩ dX4_allStand_18) 21 rfl ?_
      refine g_iload_n C dX4_allStand_21 rfl 22 rfl ?_
      refine g_imul C dX4_allStand_22 23 rfl ?_
      obtain ⟨v3, hv3, hR⟩ := opt_b hR
      refine g_callV C (rn_V C (k_X4_gains l g b S x2 ((f_X4_coldOf ((S.1 2) (Int32.toNatClampNeg x2))) * x1) N_ v3 hv3) (cwV 2 C.1.2.2.2.2 (gdV wl_269 wl_266 wl_267 wl_268 wl_5) rfl rfl rfl hd_X4_gains ⟨Nat.le_of_ble_eq_true rfl, Nat.le_of_ble_eq_true rfl⟩) 0 rfl rfl _ rg_C rg_n rfl rfl (Nat.le_of_ble_eq_true rfl) ⟨Nat.zero_le _, Nat.zero_le _⟩ dX4_allStand_23) (wM g b v3) (rg_put (wM_len.trans wM_len.symm)) (rg_len (wM_len.trans wM_len.symm)) 26 rfl ?_
      refine g_iinc C dX4_allStand_26 rfl 1 ic_1 [_, _, _] (Nat.le_of_ble_eq_true rfl) rfl rfl 29 rfl ?_
      refine g_goto C dX4_allStand_29 2 (by decide) ?_
      refine g_lv [some (.ref (b 0)), some (.int x1), some (.int (x2 + 1))] (lvLe.sm (lvLe.sm (lvLe.sm lvLe.nil))) ?_
      exact ih _ _ rv_ hR hk
def f_X4_allStand (S : (Nat → Nat → Int32) × (Nat → Nat → Int64)) (p0 : Int32) (N_ : Nat) : Option (((Nat → Nat → Int32) × (Nat → Nat → Int64))) :=
  (f_X4_allStand_L2 p0 N_ N_ 0 S).bind fun v4 =>
  some v4.2
set_option maxRecDepth 100000 in
set_option maxHeartbeats 4000000 in
theorem k_X4_allStand (l : Launch) (g : gE) (b : Nat → Nat) (S : (Nat → Nat → Int32) × (Nat → Nat → Int64)) (p0 : Int32) (N_ : Nat) (R_ : ((Nat → Nat → Int32) × (Nat → Nat → Int64))) (hR : f_X4_allStand S p0 N_ = some R_) : FnV l g yX4_allStand wA_X4_allStand { frames := 2, cells := 0, slots := 0, locals := 42 } [.ref (b 0), .int p0] (wM g b S)  (wM g b R_) := by
  refine fEntry (As := [.ref (b 0), .int p0]) (maxL := 3) (ret := none) (by decide) rfl [some (.ref (b 0)), some (.int p0), none] (Nat.le_of_ble_eq_true rfl) (lvInB.to (lvInB.sm (lvInB.sm (lvInB.nn lvInB.nil)))) ?_
  intro p e s m below meth c A C hr hlocks hname hA
  have C : Cx p s m _ c g A cX4_allStand 3 wA_X4_allStand RX4 := C
  rw [f_X4_allStand] at hR
  refine g_iconst C dX4_allStand_0 0 ic_0 1 rfl ?_
  refine g_istore_n C dX4_allStand_1 [_, _, _] (Nat.le_of_ble_eq_true rfl) rfl rfl 2 rfl ?_
  refine g_lv [some (.ref (b 0)), some (.int p0), some (.int 0)] (lvLe.sm (lvLe.sm (lvLe.sm lvLe.nil))) ?_
  obtain ⟨v4, hv4, hR⟩ := opt_b hR
  refine k_X4_allStand_L2 l g C N_ p0 N_ 0 S _ hv4 ?_
  obtain rfl := Option.some.inj hR
  exact g_vret C hr hlocks hA (by first | (dsimp only; done) | rfl) dX4_allStand_32
theorem hd_X4_truly : yX4_truly.cls = RX4 ∧ yX4_truly.cls ≠ "java/lang/invoke/MethodHandle" ∧ yX4_truly.cls ≠ "java/lang/invoke/VarHandle" ∧ (parseMethodDescriptor yX4_truly.desc).map (fun d => d.parameters.length) = some 1 := by decide +kernel
def f_X4_truly (S : (Nat → Nat → Int32) × (Nat → Nat → Int64)) (p0 : Int32) (N_ : Nat) : Option (Int32) :=
  if p0 < 0 ∨ 5 ≤ (Int32.toNatClampNeg p0) then none else
  some (f_X4_stageAt ((S.1 5) (Int32.toNatClampNeg p0)))
set_option maxRecDepth 100000 in
set_option maxHeartbeats 4000000 in
theorem k_X4_truly (l : Launch) (g : gE) (b : Nat → Nat) (S : (Nat → Nat → Int32) × (Nat → Nat → Int64)) (p0 : Int32) (N_ : Nat) (R_ : Int32) (hR : f_X4_truly S p0 N_ = some R_) : FnI l g yX4_truly wA_X4_truly { frames := 1, cells := 0, slots := 0, locals := 20 } [.ref (b 0), .int p0] (wM g b S) R_ (wM g b S) := by
  refine fEntry (As := [.ref (b 0), .int p0]) (maxL := 2) (ret := (some .int)) (by decide) rfl [some (.ref (b 0)), some (.int p0)] (Nat.le_of_ble_eq_true rfl) (lvInB.to (lvInB.sm (lvInB.sm lvInB.nil))) ?_
  intro p e s m below meth c A C hr hlocks hname hA
  have C : Cx p s m _ c g A cX4_truly 2 wA_X4_truly RX4 := C
  rw [f_X4_truly] at hR
  refine g_aload_n C dX4_truly_0 rfl 1 rfl ?_
  refine g_get (v := .ref (b 5)) C (hiC hiA_4) 0 rfl rfl 4 (by decide) (List.mem_cons_of_mem _ wl_70) rfl rfl dX4_truly_1 4 rfl ?_
  refine g_iload_n C dX4_truly_4 rfl 5 rfl ?_
  obtain ⟨h_5, hR⟩ := opt_n hR
  refine g_iald (f := (S.1 5)) C 5 rfl h_5 dX4_truly_5 6 rfl ?_
  refine g_callIR C (rn_S C (k_X4_stageAt l g ((S.1 5) (Int32.toNatClampNeg p0))) (va_cwS 1 C.1.2.2.2.2 (gdS wl_314 wl_312 wl_313 wl_5) rfl rfl rfl hd_X4_stageAt.2 ⟨Nat.le_of_ble_eq_true rfl, Nat.le_of_ble_eq_true rfl⟩) [] rfl rfl rfl rfl (Nat.le_of_ble_eq_true rfl) ⟨Nat.zero_le _, Nat.zero_le _⟩ dX4_truly_6) 9 rfl ?_
  obtain rfl := Option.some.inj hR
  exact g_iret C hr hlocks hA (by first | (dsimp only; done) | rfl) (by first | (dsimp only; done) | rfl) dX4_truly_9
theorem hd_X4_allPoints : yX4_allPoints.cls = RX4 ∧ yX4_allPoints.cls ≠ "java/lang/invoke/MethodHandle" ∧ yX4_allPoints.cls ≠ "java/lang/invoke/VarHandle" ∧ (parseMethodDescriptor yX4_allPoints.desc).map (fun d => d.parameters.length) = some 0 := by decide +kernel
def f_X4_allPoints_L4 (S : (Nat → Nat → Int32) × (Nat → Nat → Int64)) (N_ : Nat) : Nat → Int32 → Int32 → Option (Int32 × Int32)
  | 0, _, _ => none
  | n_ + 1, x1, x2 =>
    if (S.1 0 0) ≤ x2 then
      some (x1, x2)
    else
      if x2 < 0 ∨ 5 ≤ (Int32.toNatClampNeg x2) then none else
      f_X4_allPoints_L4 S N_ n_ (x1 + ((S.1 5) (Int32.toNatClampNeg x2))) (x2 + 1)
set_option maxRecDepth 100000 in
set_option maxHeartbeats 4000000 in
theorem k_X4_allPoints_L4 (l : Launch) (g : gE) {p : Program} {e : Env} {s : State} {m : MethodId} {args : Array Value} {below : List Frame} {meth : Method} {c : Code} {Q : State → Prop} {A : Nat → Prop} {b : Nat → Nat}  (C : Cx p s m args c g A cX4_allPoints 3 wA_X4_allPoints RX4) (N_ : Nat) (S : (Nat → Nat → Int32) × (Nat → Nat → Int64)) : ∀ (n_ : Nat) (x1 : Int32) (x2 : Int32) (rv_ : Int32 × Int32), f_X4_allPoints_L4 S N_ n_ x1 x2 = some rv_ → (Gm p l e (headSpec wA_X4_allPoints ({ frames := 0, cells := 0, slots := 0, locals := 0 } : Room)).room s m args below meth c Q g A 3 0 0 (wM g b S) [some (.ref (b 0)), some (.int rv_.1), some (.int rv_.2)] [] 27) → Gm p l e (headSpec wA_X4_allPoints ({ frames := 0, cells := 0, slots := 0, locals := 0 } : Room)).room s m args below meth c Q g A 3 0 0 (wM g b S) [some (.ref (b 0)), some (.int x1), some (.int x2)] [] 4 := by
  intro n_
  induction n_ with
  | zero =>
    intro x1 x2 rv_ hR
    simp [f_X4_allPoints_L4] at hR
  | succ n_ ih =>
    intro x1 x2 rv_ hR hk
    rw [f_X4_allPoints_L4] at hR
    refine g_iload_n C dX4_allPoints_4 rfl 5 rfl ?_
    refine g_aload_n C dX4_allPoints_5 rfl 6 rfl ?_
    refine g_get (v := .int (S.1 0 0)) C (hiC hiA_4) 0 rfl rfl 9 (by decide) (List.mem_cons_of_mem _ wl_239) rfl rfl dX4_allPoints_6 9 rfl ?_
    refine g_icmp_ge C dX4_allPoints_9 hR 27 12 (by decide) rfl (fun c_9 hR => ?_) (fun c_9 hR => ?_)
    · obtain rfl := Option.some.inj hR
      refine g_lv [some (.ref (b 0)), some (.int x1), some (.int x2)] (lvLe.sm (lvLe.sm (lvLe.sm lvLe.nil))) ?_
      exact hk
    · refine g_iload_n C dX4_allPoints_12 rfl 13 rfl ?_
      refine g_aload_n C dX4_allPoints_13 rfl 14 rfl ?_
      refine g_get (v := .ref (b 5)) C (hiC hiA_4) 0 rfl rfl 4 (by decide) (List.mem_cons_of_mem _ wl_70) rfl rfl dX4_allPoints_14 17 rfl ?_
      refine g_iload_n C dX4_allPoints_17 rfl 18 rfl ?_
      obtain ⟨h_18, hR⟩ := opt_n hR
      refine g_iald (f := (S.1 5)) C 5 rfl h_18 dX4_allPoints_18 19 rfl ?_
      refine g_iadd C dX4_allPoints_19 20 rfl ?_
      refine g_istore_n C dX4_allPoints_20 [_, _, _] (Nat.le_of_ble_eq_true rfl) rfl rfl 21 rfl ?_
      refine g_iinc C dX4_allPoints_21 rfl 1 ic_1 [_, _, _] (Nat.le_of_ble_eq_true rfl) rfl rfl 24 rfl ?_
      refine g_goto C dX4_allPoints_24 4 (by decide) ?_
      refine g_lv [some (.ref (b 0)), some (.int (x1 + ((S.1 5) (Int32.toNatClampNeg x2)))), some (.int (x2 + 1))] (lvLe.sm (lvLe.sm (lvLe.sm lvLe.nil))) ?_
      exact ih _ _ rv_ hR hk
def f_X4_allPoints (S : (Nat → Nat → Int32) × (Nat → Nat → Int64)) (N_ : Nat) : Option (Int32) :=
  (f_X4_allPoints_L4 S N_ N_ 0 0).bind fun v1 =>
  some v1.1
set_option maxRecDepth 100000 in
set_option maxHeartbeats 4000000 in
theorem k_X4_allPoints (l : Launch) (g : gE) (b : Nat → Nat) (S : (Nat → Nat → Int32) × (Nat → Nat → Int64)) (N_ : Nat) (R_ : Int32) (hR : f_X4_allPoints S N_ = some R_) : FnI l g yX4_allPoints wA_X4_allPoints { frames := 0, cells := 0, slots := 0, locals := 0 } [.ref (b 0)] (wM g b S) R_ (wM g b S) := by
  refine fEntry (As := [.ref (b 0)]) (maxL := 3) (ret := (some .int)) (by decide) rfl [some (.ref (b 0)), none, none] (Nat.le_of_ble_eq_true rfl) (lvInB.to (lvInB.sm (lvInB.nn (lvInB.nn lvInB.nil)))) ?_
  intro p e s m below meth c A C hr hlocks hname hA
  have C : Cx p s m _ c g A cX4_allPoints 3 wA_X4_allPoints RX4 := C
  rw [f_X4_allPoints] at hR
  refine g_iconst C dX4_allPoints_0 0 ic_0 1 rfl ?_
  refine g_istore_n C dX4_allPoints_1 [_, _, _] (Nat.le_of_ble_eq_true rfl) rfl rfl 2 rfl ?_
  refine g_iconst C dX4_allPoints_2 0 ic_0 3 rfl ?_
  refine g_istore_n C dX4_allPoints_3 [_, _, _] (Nat.le_of_ble_eq_true rfl) rfl rfl 4 rfl ?_
  refine g_lv [some (.ref (b 0)), some (.int 0), some (.int 0)] (lvLe.sm (lvLe.sm (lvLe.sm lvLe.nil))) ?_
  obtain ⟨v1, hv1, hR⟩ := opt_b hR
  refine k_X4_allPoints_L4 l g C N_ S N_ 0 0 _ hv1 ?_
  refine g_iload_n C dX4_allPoints_27 rfl 28 rfl ?_
  obtain rfl := Option.some.inj hR
  exact g_iret C hr hlocks hA (by first | (dsimp only; done) | rfl) (by first | (dsimp only; done) | rfl) dX4_allPoints_28
theorem hd_X4_comes : yX4_comes.cls = RX4 ∧ yX4_comes.cls ≠ "java/lang/invoke/MethodHandle" ∧ yX4_comes.cls ≠ "java/lang/invoke/VarHandle" ∧ (parseMethodDescriptor yX4_comes.desc).map (fun d => d.parameters.length) = some 1 := by decide +kernel
def f_X4_comes (S : (Nat → Nat → Int32) × (Nat → Nat → Int64)) (p0 : Int32) (N_ : Nat) : Option (Bool × ((Nat → Nat → Int32) × (Nat → Nat → Int64))) :=
  if (4 * p0) < 0 ∨ 192 ≤ (Int32.toNatClampNeg (4 * p0)) then none else
  if ((4 * p0) + 1) < 0 ∨ 192 ≤ (Int32.toNatClampNeg ((4 * p0) + 1)) then none else
  if p0 < 0 ∨ 48 ≤ (Int32.toNatClampNeg p0) then none else
  if ((S.1 11) (Int32.toNatClampNeg p0)) = 99 then
    (f_X4_allStand S ((S.1 13) (Int32.toNatClampNeg (4 * p0))) N_).bind fun v1 =>
    some (true, v1)
  else
    if ((S.1 11) (Int32.toNatClampNeg p0)) = 104 then
      if (b2i (f_X4_isJug S ((S.1 13) (Int32.toNatClampNeg (4 * p0))))) = 0 then
        some (false, S)
      else
        some (true, ((kS S.1 0 (upd (upd (S.1 0) 1 ((S.1 13) (Int32.toNatClampNeg (4 * p0)))) 2 0)), S.2))
    else
      if ((S.1 11) (Int32.toNatClampNeg p0)) = 106 then
        (f_X4_comesJug S (4 * p0) N_).bind fun v2 =>
        some (v2.1, v2.2)
      else
        if ((S.1 11) (Int32.toNatClampNeg p0)) = 112 then
          some (true, ((kS S.1 0 (upd (S.1 0) 4 ((S.1 13) (Int32.toNatClampNeg (4 * p0))))), S.2))
        else
          if ((S.1 11) (Int32.toNatClampNeg p0)) = 115 then
            (f_X4_comesSeen S ((S.1 13) (Int32.toNatClampNeg (4 * p0))) ((S.1 13) (Int32.toNatClampNeg ((4 * p0) + 1))) N_).bind fun v3 =>
            some (v3.1, v3.2)
          else
            if ((S.1 11) (Int32.toNatClampNeg p0)) = 116 then
              if ((S.1 13) (Int32.toNatClampNeg (4 * p0))) < 4 then
                if ((S.1 13) (Int32.toNatClampNeg (4 * p0))) < 0 ∨ 4 ≤ (Int32.toNatClampNeg ((S.1 13) (Int32.toNatClampNeg (4 * p0)))) then none else
                some (true, ((kS S.1 6 (upd (S.1 6) (Int32.toNatClampNeg ((S.1 13) (Int32.toNatClampNeg (4 * p0)))) ((S.1 13) (Int32.toNatClampNeg ((4 * p0) + 1))))), S.2))
              else
                some (false, S)
            else
              if ((S.1 11) (Int32.toNatClampNeg p0)) = 119 then
                if (b2i (f_X4_isJug S ((S.1 13) (Int32.toNatClampNeg (4 * p0))))) = 0 then
                  some (false, S)
                else
                  (f_X4_warmOf S ((S.1 13) (Int32.toNatClampNeg (4 * p0))) N_).bind fun v4 =>
                  (f_X4_gains S ((S.1 13) (Int32.toNatClampNeg (4 * p0))) (v4 * ((S.1 13) (Int32.toNatClampNeg ((4 * p0) + 1)))) N_).bind fun v5 =>
                  some (true, v5)
              else
                (f_X4_comesUse S ((S.1 13) (Int32.toNatClampNeg (4 * p0))) N_).bind fun v6 =>
                some (v6.1, v6.2)
set_option maxRecDepth 100000 in
set_option maxHeartbeats 4000000 in
theorem k_X4_comes (l : Launch) (g : gE) (b : Nat → Nat) (S : (Nat → Nat → Int32) × (Nat → Nat → Int64)) (p0 : Int32) (N_ : Nat) (R_ : Bool × ((Nat → Nat → Int32) × (Nat → Nat → Int64))) (hR : f_X4_comes S p0 N_ = some R_) : FnI l g yX4_comes wA_X4_comes { frames := 3, cells := 0, slots := 0, locals := 64 } [.ref (b 0), .int p0] (wM g b S) (b2i R_.1) (wM g b R_.2) := by
  refine fEntry (As := [.ref (b 0), .int p0]) (maxL := 5) (ret := (some .boolean)) (by decide) rfl [some (.ref (b 0)), some (.int p0), none, none, none] (Nat.le_of_ble_eq_true rfl) (lvInB.to (lvInB.sm (lvInB.sm (lvInB.nn (lvInB.nn (lvInB.nn lvInB.nil)))))) ?_
  intro p e s m below meth c A C hr hlocks hname hA
  have C : Cx p s m _ c g A cX4_comes 5 wA_X4_comes RX4 := C
  rw [f_X4_comes] at hR
  refine g_iconst C dX4_comes_0 4 ic_4 1 rfl ?_
  refine g_iload_n C dX4_comes_1 rfl 2 rfl ?_
  refine g_imul C dX4_comes_2 3 rfl ?_
  refine g_istore_n C dX4_comes_3 [_, _, _, _, _] (Nat.le_of_ble_eq_true rfl) rfl rfl 4 rfl ?_
  refine g_aload_n C dX4_comes_4 rfl 5 rfl ?_
  refine g_get (v := .ref (b 13)) C (hiC hiA_4) 0 rfl rfl 17 (by decide) (List.mem_cons_of_mem _ wl_78) rfl rfl dX4_comes_5 8 rfl ?_
  refine g_iload_n C dX4_comes_8 rfl 9 rfl ?_
  obtain ⟨h_9, hR⟩ := opt_n hR
  refine g_iald (f := (S.1 13)) C 13 rfl h_9 dX4_comes_9 10 rfl ?_
  refine g_istore_n C dX4_comes_10 [_, _, _, _, _] (Nat.le_of_ble_eq_true rfl) rfl rfl 11 rfl ?_
  refine g_aload_n C dX4_comes_11 rfl 12 rfl ?_
  refine g_get (v := .ref (b 13)) C (hiC hiA_4) 0 rfl rfl 17 (by decide) (List.mem_cons_of_mem _ wl_78) rfl rfl dX4_comes_12 15 rfl ?_
  refine g_iload_n C dX4_comes_15 rfl 16 rfl ?_
  refine g_iconst C dX4_comes_16 1 ic_1 17 rfl ?_
  refine g_iadd C dX4_comes_17 18 rfl ?_
  obtain ⟨h_18, hR⟩ := opt_n hR
  refine g_iald (f := (S.1 13)) C 13 rfl h_18 dX4_comes_18 19 rfl ?_
  refine g_istore C dX4_comes_19 [_, _, _, _, _] (Nat.le_of_ble_eq_true rfl) rfl rfl 21 rfl ?_
  refine g_aload_n C dX4_comes_21 rfl 22 rfl ?_
  refine g_get (v := .ref (b 11)) C (hiC hiA_4) 0 rfl rfl 15 (by decide) (List.mem_cons_of_mem _ wl_76) rfl rfl dX4_comes_22 25 rfl ?_
  refine g_iload_n C dX4_comes_25 rfl 26 rfl ?_
  obtain ⟨h_26, hR⟩ := opt_n hR
  refine g_iald (f := (S.1 11)) C 11 rfl h_26 dX4_comes_26 27 rfl ?_
  rcases Decidable.em (((S.1 11) (Int32.toNatClampNeg p0)) = 99) with c_27_99 | c_27_99
  · have hR := (if_pos c_27_99).symm.trans hR
    refine g_tableIn C dX4_comes_27 99 c_27_99 (103) 130 (by decide) ?_
    refine g_aload_n C dX4_comes_130 rfl 131 rfl ?_
    refine g_iload_n C dX4_comes_131 rfl 132 rfl ?_
    obtain ⟨v1, hv1, hR⟩ := opt_b hR
    refine g_callV C (rn_V C (k_X4_allStand l g b S ((S.1 13) (Int32.toNatClampNeg (4 * p0))) N_ v1 hv1) (cwV 1 C.1.2.2.2.2 (gdV wl_262 wl_259 wl_260 wl_261 wl_5) rfl rfl rfl hd_X4_allStand ⟨Nat.le_of_ble_eq_true rfl, Nat.le_of_ble_eq_true rfl⟩) 0 rfl rfl _ rg_C rg_n rfl rfl (Nat.le_of_ble_eq_true rfl) ⟨Nat.zero_le _, Nat.zero_le _⟩ dX4_comes_132) (wM g b v1) (rg_put (wM_len.trans wM_len.symm)) (rg_len (wM_len.trans wM_len.symm)) 135 rfl ?_
    refine g_iconst C dX4_comes_135 1 ic_1 136 rfl ?_
    obtain rfl := Option.some.inj hR
    exact g_zret C hr hlocks (by decide) hA rfl (by first | (dsimp only; done) | rfl) dX4_comes_136
  · have hR := (if_neg c_27_99).symm.trans hR
    rcases Decidable.em (((S.1 11) (Int32.toNatClampNeg p0)) = 104) with c_27_104 | c_27_104
    · have hR := (if_pos c_27_104).symm.trans hR
      refine g_tableIn C dX4_comes_27 104 c_27_104 (159) 186 (by decide) ?_
      refine g_aload_n C dX4_comes_186 rfl 187 rfl ?_
      refine g_iload_n C dX4_comes_187 rfl 188 rfl ?_
      refine g_callIR C (rn_V C (k_X4_isJug l g b S ((S.1 13) (Int32.toNatClampNeg (4 * p0)))) (cwV 1 C.1.2.2.2.2 (gdV wl_276 wl_273 wl_274 wl_275 wl_5) rfl rfl rfl hd_X4_isJug ⟨Nat.le_of_ble_eq_true rfl, Nat.le_of_ble_eq_true rfl⟩) 0 rfl rfl _ rg_C rg_n rfl rfl (Nat.le_of_ble_eq_true rfl) ⟨Nat.zero_le _, Nat.zero_le _⟩ dX4_comes_188) 191 rfl ?_
      refine g_if_ne C dX4_comes_191 hR 196 194 (by decide) rfl (fun c_191 hR => ?_) (fun c_191 hR => ?_)
      · refine g_aload_n C dX4_comes_196 rfl 197 rfl ?_
        refine g_iload_n C dX4_comes_197 rfl 198 rfl ?_
        refine g_put C (hiC hiA_4) tyX4 tyX4_ok nmX4 0 rfl rfl 10 (by decide) (List.mem_cons_of_mem _ wl_240) rfl rfl rfl rfl (Nat.le_of_ble_eq_true rfl) dX4_comes_198 (wMr g b (S.1 0 0) ((S.1 13) (Int32.toNatClampNeg (4 * p0))) (S.1 0 2) (S.1 0 3) (S.1 0 4) (S.1 0 5) (S.1 0 6) (S.1 0 7) (S.1 0 8) (S.1 0 9) (S.1 0 10) (S.1 0 11) (S.1 0 12) (S.1 0 13) (S.1 0 14) (S.1 1) (S.1 2) (S.1 3) (S.1 4) (S.1 5) (S.1 6) (S.1 7) (S.1 8) (S.1 9) (S.1 10) (S.1 11) (S.1 12) (S.1 13) (S.1 14) (S.1 15) (S.1 16) (S.2 0) (S.2 1) (S.2 2)) rfl 201 rfl ?_
        refine g_aload_n C dX4_comes_201 rfl 202 rfl ?_
        refine g_iconst C dX4_comes_202 0 ic_0 203 rfl ?_
        refine g_put C (hiC hiA_4) tyX4 tyX4_ok nmX4 0 rfl rfl 11 (by decide) (List.mem_cons_of_mem _ wl_241) rfl rfl rfl rfl (Nat.le_of_ble_eq_true rfl) dX4_comes_203 (wMr g b (S.1 0 0) ((S.1 13) (Int32.toNatClampNeg (4 * p0))) 0 (S.1 0 3) (S.1 0 4) (S.1 0 5) (S.1 0 6) (S.1 0 7) (S.1 0 8) (S.1 0 9) (S.1 0 10) (S.1 0 11) (S.1 0 12) (S.1 0 13) (S.1 0 14) (S.1 1) (S.1 2) (S.1 3) (S.1 4) (S.1 5) (S.1 6) (S.1 7) (S.1 8) (S.1 9) (S.1 10) (S.1 11) (S.1 12) (S.1 13) (S.1 14) (S.1 15) (S.1 16) (S.2 0) (S.2 1) (S.2 2)) rfl 206 rfl ?_
        refine g_iconst C dX4_comes_206 1 ic_1 207 rfl ?_
        obtain rfl := Option.some.inj hR
        exact g_zret C hr hlocks (by decide) hA rfl (by first | (dsimp only; done) | rfl) dX4_comes_207
      · refine g_iconst C dX4_comes_194 0 ic_0 195 rfl ?_
        obtain rfl := Option.some.inj hR
        exact g_zret C hr hlocks (by decide) hA rfl (by first | (dsimp only; done) | rfl) dX4_comes_195
    · have hR := (if_neg c_27_104).symm.trans hR
      rcases Decidable.em (((S.1 11) (Int32.toNatClampNeg p0)) = 106) with c_27_106 | c_27_106
      · have hR := (if_pos c_27_106).symm.trans hR
        refine g_tableIn C dX4_comes_27 106 c_27_106 (97) 124 (by decide) ?_
        refine g_aload_n C dX4_comes_124 rfl 125 rfl ?_
        refine g_iload_n C dX4_comes_125 rfl 126 rfl ?_
        obtain ⟨v2, hv2, hR⟩ := opt_b hR
        refine g_callI C (rn_V C (k_X4_comesJug l g b S (4 * p0) N_ v2 hv2) (cwV 1 C.1.2.2.2.2 (gdV wl_258 wl_255 wl_256 wl_257 wl_5) rfl rfl rfl hd_X4_comesJug ⟨Nat.le_of_ble_eq_true rfl, Nat.le_of_ble_eq_true rfl⟩) 0 rfl rfl _ rg_C rg_n rfl rfl (Nat.le_of_ble_eq_true rfl) ⟨Nat.zero_le _, Nat.zero_le _⟩ dX4_comes_126) (wM g b v2.2) (rg_put (wM_len.trans wM_len.symm)) (rg_len (wM_len.trans wM_len.symm)) 129 rfl ?_
        obtain rfl := Option.some.inj hR
        exact g_zret C hr hlocks (b2i_nar _) hA rfl (by first | (dsimp only; done) | rfl) dX4_comes_129
      · have hR := (if_neg c_27_106).symm.trans hR
        rcases Decidable.em (((S.1 11) (Int32.toNatClampNeg p0)) = 112) with c_27_112 | c_27_112
        · have hR := (if_pos c_27_112).symm.trans hR
          refine g_tableIn C dX4_comes_27 112 c_27_112 (152) 179 (by decide) ?_
          refine g_aload_n C dX4_comes_179 rfl 180 rfl ?_
          refine g_iload_n C dX4_comes_180 rfl 181 rfl ?_
          refine g_put C (hiC hiA_4) tyX4 tyX4_ok nmX4 0 rfl rfl 13 (by decide) (List.mem_cons_of_mem _ wl_85) rfl rfl rfl rfl (Nat.le_of_ble_eq_true rfl) dX4_comes_181 (wMr g b (S.1 0 0) (S.1 0 1) (S.1 0 2) (S.1 0 3) ((S.1 13) (Int32.toNatClampNeg (4 * p0))) (S.1 0 5) (S.1 0 6) (S.1 0 7) (S.1 0 8) (S.1 0 9) (S.1 0 10) (S.1 0 11) (S.1 0 12) (S.1 0 13) (S.1 0 14) (S.1 1) (S.1 2) (S.1 3) (S.1 4) (S.1 5) (S.1 6) (S.1 7) (S.1 8) (S.1 9) (S.1 10) (S.1 11) (S.1 12) (S.1 13) (S.1 14) (S.1 15) (S.1 16) (S.2 0) (S.2 1) (S.2 2)) rfl 184 rfl ?_
          refine g_iconst C dX4_comes_184 1 ic_1 185 rfl ?_
          obtain rfl := Option.some.inj hR
          exact g_zret C hr hlocks (by decide) hA rfl (by first | (dsimp only; done) | rfl) dX4_comes_185
        · have hR := (if_neg c_27_112).symm.trans hR
          rcases Decidable.em (((S.1 11) (Int32.toNatClampNeg p0)) = 115) with c_27_115 | c_27_115
          · have hR := (if_pos c_27_115).symm.trans hR
            refine g_tableIn C dX4_comes_27 115 c_27_115 (181) 208 (by decide) ?_
            refine g_aload_n C dX4_comes_208 rfl 209 rfl ?_
            refine g_iload_n C dX4_comes_209 rfl 210 rfl ?_
            refine g_iload C dX4_comes_210 rfl 212 rfl ?_
            obtain ⟨v3, hv3, hR⟩ := opt_b hR
            refine g_callI C (rn_V C (k_X4_comesSeen l g b S ((S.1 13) (Int32.toNatClampNeg (4 * p0))) ((S.1 13) (Int32.toNatClampNeg ((4 * p0) + 1))) N_ v3 hv3) (cwV 2 C.1.2.2.2.2 (gdV wl_284 wl_281 wl_282 wl_283 wl_5) rfl rfl rfl hd_X4_comesSeen ⟨Nat.le_of_ble_eq_true rfl, Nat.le_of_ble_eq_true rfl⟩) 0 rfl rfl _ rg_C rg_n rfl rfl (Nat.le_of_ble_eq_true rfl) ⟨Nat.zero_le _, Nat.zero_le _⟩ dX4_comes_212) (wM g b v3.2) (rg_put (wM_len.trans wM_len.symm)) (rg_len (wM_len.trans wM_len.symm)) 215 rfl ?_
            obtain rfl := Option.some.inj hR
            exact g_zret C hr hlocks (b2i_nar _) hA rfl (by first | (dsimp only; done) | rfl) dX4_comes_215
          · have hR := (if_neg c_27_115).symm.trans hR
            rcases Decidable.em (((S.1 11) (Int32.toNatClampNeg p0)) = 116) with c_27_116 | c_27_116
            · have hR := (if_pos c_27_116).symm.trans hR
              refine g_tableIn C dX4_comes_27 116 c_27_116 (135) 162 (by decide) ?_
              refine g_iload_n C dX4_comes_162 rfl 163 rfl ?_
              refine g_iconst C dX4_comes_163 4 ic_4 164 rfl ?_
              refine g_icmp_lt C dX4_comes_164 hR 169 167 (by decide) rfl (fun c_164 hR => ?_) (fun c_164 hR => ?_)
              · refine g_aload_n C dX4_comes_169 rfl 170 rfl ?_
                refine g_get (v := .ref (b 6)) C (hiC hiA_4) 0 rfl rfl 5 (by decide) (List.mem_cons_of_mem _ wl_71) rfl rfl dX4_comes_170 173 rfl ?_
                refine g_iload_n C dX4_comes_173 rfl 174 rfl ?_
                refine g_iload C dX4_comes_174 rfl 176 rfl ?_
                obtain ⟨h_176, hR⟩ := opt_n hR
                refine g_iast (f := (S.1 6)) C 6 rfl h_176 dX4_comes_176 (wMr g b (S.1 0 0) (S.1 0 1) (S.1 0 2) (S.1 0 3) (S.1 0 4) (S.1 0 5) (S.1 0 6) (S.1 0 7) (S.1 0 8) (S.1 0 9) (S.1 0 10) (S.1 0 11) (S.1 0 12) (S.1 0 13) (S.1 0 14) (S.1 1) (S.1 2) (S.1 3) (S.1 4) (S.1 5) (upd (S.1 6) (Int32.toNatClampNeg ((S.1 13) (Int32.toNatClampNeg (4 * p0)))) ((S.1 13) (Int32.toNatClampNeg ((4 * p0) + 1)))) (S.1 7) (S.1 8) (S.1 9) (S.1 10) (S.1 11) (S.1 12) (S.1 13) (S.1 14) (S.1 15) (S.1 16) (S.2 0) (S.2 1) (S.2 2)) rfl 177 rfl ?_
                refine g_iconst C dX4_comes_177 1 ic_1 178 rfl ?_
                obtain rfl := Option.some.inj hR
                exact g_zret C hr hlocks (by decide) hA rfl (by first | (dsimp only; done) | rfl) dX4_comes_178
              · refine g_iconst C dX4_comes_167 0 ic_0 168 rfl ?_
                obtain rfl := Option.some.inj hR
                exact g_zret C hr hlocks (by decide) hA rfl (by first | (dsimp only; done) | rfl) dX4_comes_168
            · have hR := (if_neg c_27_116).symm.trans hR
              rcases Decidable.em (((S.1 11) (Int32.toNatClampNeg p0)) = 119) with c_27_119 | c_27_119
              · have hR := (if_pos c_27_119).symm.trans hR
                refine g_tableIn C dX4_comes_27 119 c_27_119 (110) 137 (by decide) ?_
                refine g_aload_n C dX4_comes_137 rfl 138 rfl ?_
                refine g_iload_n C dX4_comes_138 rfl 139 rfl ?_
                refine g_callIR C (rn_V C (k_X4_isJug l g b S ((S.1 13) (Int32.toNatClampNeg (4 * p0)))) (cwV 1 C.1.2.2.2.2 (gdV wl_276 wl_273 wl_274 wl_275 wl_5) rfl rfl rfl hd_X4_isJug ⟨Nat.le_of_ble_eq_true rfl, Nat.le_of_ble_eq_true rfl⟩) 0 rfl rfl _ rg_C rg_n rfl rfl (Nat.le_of_ble_eq_true rfl) ⟨Nat.zero_le _, Nat.zero_le _⟩ dX4_comes_139) 142 rfl ?_
                refine g_if_ne C dX4_comes_142 hR 147 145 (by decide) rfl (fun c_142 hR => ?_) (fun c_142 hR => ?_)
                · refine g_aload_n C dX4_comes_147 rfl 148 rfl ?_
                  refine g_iload_n C dX4_comes_148 rfl 149 rfl ?_
                  refine g_aload_n C dX4_comes_149 rfl 150 rfl ?_
                  refine g_iload_n C dX4_comes_150 rfl 151 rfl ?_
                  obtain ⟨v4, hv4, hR⟩ := opt_b hR
                  refine g_callIR C (rn_V C (k_X4_warmOf l g b S ((S.1 13) (Int32.toNatClampNeg (4 * p0))) N_ v4 hv4) (cwV 1 C.1.2.2.2.2 (gdV wl_280 wl_277 wl_278 wl_279 wl_5) rfl rfl rfl hd_X4_warmOf ⟨Nat.le_of_ble_eq_true rfl, Nat.le_of_ble_eq_true rfl⟩) 0 rfl rfl _ rg_C rg_n rfl rfl (Nat.le_of_ble_eq_true rfl) ⟨Nat.zero_le _, Nat.zero_le _⟩ dX4_comes_151) 154 rfl ?_
                  refine g_iload C dX4_comes_154 rfl 156 rfl ?_
                  refine g_imul C dX4_comes_156 157 rfl ?_
                  obtain ⟨v5, hv5, hR⟩ := opt_b hR
                  refine g_callV C (rn_V C (k_X4_gains l g b S ((S.1 13) (Int32.toNatClampNeg (4 * p0))) (v4 * ((S.1 13) (Int32.toNatClampNeg ((4 * p0) + 1)))) N_ v5 hv5) (cwV 2 C.1.2.2.2.2 (gdV wl_269 wl_266 wl_267 wl_268 wl_5) rfl rfl rfl hd_X4_gains ⟨Nat.le_of_ble_eq_true rfl, Nat.le_of_ble_eq_true rfl⟩) 0 rfl rfl _ rg_C rg_n rfl rfl (Nat.le_of_ble_eq_true rfl) ⟨Nat.zero_le _, Nat.zero_le _⟩ dX4_comes_157) (wM g b v5) (rg_put (wM_len.trans wM_len.symm)) (rg_len (wM_len.trans wM_len.symm)) 160 rfl ?_
                  refine g_iconst C dX4_comes_160 1 ic_1 161 rfl ?_
                  obtain rfl := Option.some.inj hR
                  exact g_zret C hr hlocks (by decide) hA rfl (by first | (dsimp only; done) | rfl) dX4_comes_161
                · refine g_iconst C dX4_comes_145 0 ic_0 146 rfl ?_
                  obtain rfl := Option.some.inj hR
                  exact g_zret C hr hlocks (by decide) hA rfl (by first | (dsimp only; done) | rfl) dX4_comes_146
              · have hR := (if_neg c_27_119).symm.trans hR
                refine g_tableD C dX4_comes_27 [99, 104, 106, 112, 115, 116, 119] (ne_c c_27_99 (ne_c c_27_104 (ne_c c_27_106 (ne_c c_27_112 (ne_c c_27_115 (ne_c c_27_116 (ne_c c_27_119 ne_n))))))) (by decide +kernel) (by decide +kernel) 216 (by decide) ?_
                refine g_aload_n C dX4_comes_216 rfl 217 rfl ?_
                refine g_iload_n C dX4_comes_217 rfl 218 rfl ?_
                obtain ⟨v6, hv6, hR⟩ := opt_b hR
                refine g_callI C (rn_V C (k_X4_comesUse l g b S ((S.1 13) (Int32.toNatClampNeg (4 * p0))) N_ v6 hv6) (cwV 1 C.1.2.2.2.2 (gdV wl_292 wl_289 wl_290 wl_291 wl_5) rfl rfl rfl hd_X4_comesUse ⟨Nat.le_of_ble_eq_true rfl, Nat.le_of_ble_eq_true rfl⟩) 0 rfl rfl _ rg_C rg_n rfl rfl (Nat.le_of_ble_eq_true rfl) ⟨Nat.zero_le _, Nat.zero_le _⟩ dX4_comes_218) (wM g b v6.2) (rg_put (wM_len.trans wM_len.symm)) (rg_len (wM_len.trans wM_len.symm)) 221 rfl ?_
                obtain rfl := Option.some.inj hR
                exact g_zret C hr hlocks (b2i_nar _) hA rfl (by first | (dsimp only; done) | rfl) dX4_comes_221
