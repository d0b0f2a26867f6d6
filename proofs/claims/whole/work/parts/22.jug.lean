theorem hd_X0_init : yX0_init.cls = RX0 ∧ yX0_init.cls ≠ "java/lang/invoke/MethodHandle" ∧ yX0_init.cls ≠ "java/lang/invoke/VarHandle" ∧ (parseMethodDescriptor yX0_init.desc).map (fun d => d.parameters.length) = some 0 := by decide +kernel
def f_X0_init  : Int32 × Int32 × Int32 × Int32 :=
  (0, 0, 0, 0)
set_option maxRecDepth 100000 in
set_option maxHeartbeats 4000000 in
theorem k_X0_init (l : Launch) (g : gE) (h0 : Nat) (kd : Int32) (fg : Int32) (cp : Int32) (pt : Int32) : FnV l g yX0_init wA_X0_init { frames := 1, cells := 0, slots := 0, locals := 12 } [.ref h0] ([(h0, .inr (0, [.int kd, .int fg, .int cp, .int pt]))])  ([(h0, .inr (0, [.int ((f_X0_init).1), .int ((f_X0_init).2.1), .int ((f_X0_init).2.2.1), .int ((f_X0_init).2.2.2)]))]) := by
  generalize hR : f_X0_init = R_
  refine fEntry (As := [.ref h0]) (maxL := 1) (ret := none) (by decide) rfl [some (.ref h0)] (Nat.le_of_ble_eq_true rfl) (lvInB.to (lvInB.sm lvInB.nil)) ?_
  intro p e s m below meth c A C hr hlocks hname hA
  have C : Cx p s m _ c g A cX0_init 1 wA_X0_init RX0 := C
  rw [f_X0_init] at hR
  refine g_aload_n C dX0_init_0 rfl 1 rfl ?_
  refine g_objInit C (List.mem_cons_of_mem _ wl_52) (List.mem_cons_of_mem _ wl_10) (List.mem_cons_of_mem _ wl_11) dX0_init_1 4 rfl (Nat.le_of_ble_eq_true rfl) (Nat.le_of_ble_eq_true rfl) ?_
  refine g_aload_n C dX0_init_4 rfl 5 rfl ?_
  refine g_iconst C dX0_init_5 0 ic_0 6 rfl ?_
  refine g_put C (hiC hiA_0) tyX0 tyX0_ok nmX0 0 rfl rfl 0 (by decide) (List.mem_cons_of_mem _ wl_53) rfl rfl rfl rfl (Nat.le_of_ble_eq_true rfl) dX0_init_6 ([(h0, .inr (0, [.int 0, .int fg, .int cp, .int pt]))]) rfl 9 rfl ?_
  refine g_aload_n C dX0_init_9 rfl 10 rfl ?_
  refine g_iconst C dX0_init_10 0 ic_0 11 rfl ?_
  refine g_put C (hiC hiA_0) tyX0 tyX0_ok nmX0 0 rfl rfl 1 (by decide) (List.mem_cons_of_mem _ wl_54) rfl rfl rfl rfl (Nat.le_of_ble_eq_true rfl) dX0_init_11 ([(h0, .inr (0, [.int 0, .int 0, .int cp, .int pt]))]) rfl 14 rfl ?_
  refine g_aload_n C dX0_init_14 rfl 15 rfl ?_
  refine g_iconst C dX0_init_15 0 ic_0 16 rfl ?_
  refine g_put C (hiC hiA_0) tyX0 tyX0_ok nmX0 0 rfl rfl 2 (by decide) (List.mem_cons_of_mem _ wl_55) rfl rfl rfl rfl (Nat.le_of_ble_eq_true rfl) dX0_init_16 ([(h0, .inr (0, [.int 0, .int 0, .int 0, .int pt]))]) rfl 19 rfl ?_
  refine g_aload_n C dX0_init_19 rfl 20 rfl ?_
  refine g_iconst C dX0_init_20 0 ic_0 21 rfl ?_
  refine g_put C (hiC hiA_0) tyX0 tyX0_ok nmX0 0 rfl rfl 3 (by decide) (List.mem_cons_of_mem _ wl_56) rfl rfl rfl rfl (Nat.le_of_ble_eq_true rfl) dX0_init_21 ([(h0, .inr (0, [.int 0, .int 0, .int 0, .int 0]))]) rfl 24 rfl ?_
  subst hR
  exact g_vret C hr hlocks hA (by first | (dsimp only; done) | rfl) dX0_init_24
theorem hd_X0_fill : yX0_fill.cls = RX0 ∧ yX0_fill.cls ≠ "java/lang/invoke/MethodHandle" ∧ yX0_fill.cls ≠ "java/lang/invoke/VarHandle" ∧ (parseMethodDescriptor yX0_fill.desc).map (fun d => d.parameters.length) = some 4 := by decide +kernel
def f_X0_fill (p1 : Int32) (p2 : Int32) (p3 : Int32) (p4 : Int32) : Int32 × Int32 × Int32 × Int32 :=
  (p1, p2, p3, p4)
set_option maxRecDepth 100000 in
set_option maxHeartbeats 4000000 in
theorem k_X0_fill (l : Launch) (g : gE) (h0 : Nat) (kd : Int32) (fg : Int32) (cp : Int32) (pt : Int32) (p1 : Int32) (p2 : Int32) (p3 : Int32) (p4 : Int32) : FnV l g yX0_fill wA_X0_fill { frames := 0, cells := 0, slots := 0, locals := 0 } [.ref h0, .int p1, .int p2, .int p3, .int p4] ([(h0, .inr (0, [.int kd, .int fg, .int cp, .int pt]))])  ([(h0, .inr (0, [.int ((f_X0_fill p1 p2 p3 p4).1), .int ((f_X0_fill p1 p2 p3 p4).2.1), .int ((f_X0_fill p1 p2 p3 p4).2.2.1), .int ((f_X0_fill p1 p2 p3 p4).2.2.2)]))]) := by
  generalize hR : f_X0_fill p1 p2 p3 p4 = R_
  refine fEntry (As := [.ref h0, .int p1, .int p2, .int p3, .int p4]) (maxL := 5) (ret := none) (by decide) rfl [some (.ref h0), some (.int p1), some (.int p2), some (.int p3), some (.int p4)] (Nat.le_of_ble_eq_true rfl) (lvInB.to (lvInB.sm (lvInB.sm (lvInB.sm (lvInB.sm (lvInB.sm lvInB.nil)))))) ?_
  intro p e s m below meth c A C hr hlocks hname hA
  have C : Cx p s m _ c g A cX0_fill 5 wA_X0_fill RX0 := C
  rw [f_X0_fill] at hR
  refine g_aload_n C dX0_fill_0 rfl 1 rfl ?_
  refine g_iload_n C dX0_fill_1 rfl 2 rfl ?_
  refine g_put C (hiC hiA_0) tyX0 tyX0_ok nmX0 0 rfl rfl 0 (by decide) (List.mem_cons_of_mem _ wl_53) rfl rfl rfl rfl (Nat.le_of_ble_eq_true rfl) dX0_fill_2 ([(h0, .inr (0, [.int p1, .int fg, .int cp, .int pt]))]) rfl 5 rfl ?_
  refine g_aload_n C dX0_fill_5 rfl 6 rfl ?_
  refine g_iload_n C dX0_fill_6 rfl 7 rfl ?_
  refine g_put C (hiC hiA_0) tyX0 tyX0_ok nmX0 0 rfl rfl 1 (by decide) (List.mem_cons_of_mem _ wl_54) rfl rfl rfl rfl (Nat.le_of_ble_eq_true rfl) dX0_fill_7 ([(h0, .inr (0, [.int p1, .int p2, .int cp, .int pt]))]) rfl 10 rfl ?_
  refine g_aload_n C dX0_fill_10 rfl 11 rfl ?_
  refine g_iload_n C dX0_fill_11 rfl 12 rfl ?_
  refine g_put C (hiC hiA_0) tyX0 tyX0_ok nmX0 0 rfl rfl 2 (by decide) (List.mem_cons_of_mem _ wl_55) rfl rfl rfl rfl (Nat.le_of_ble_eq_true rfl) dX0_fill_12 ([(h0, .inr (0, [.int p1, .int p2, .int p3, .int pt]))]) rfl 15 rfl ?_
  refine g_aload_n C dX0_fill_15 rfl 16 rfl ?_
  refine g_iload C dX0_fill_16 rfl 18 rfl ?_
  refine g_put C (hiC hiA_0) tyX0 tyX0_ok nmX0 0 rfl rfl 3 (by decide) (List.mem_cons_of_mem _ wl_56) rfl rfl rfl rfl (Nat.le_of_ble_eq_true rfl) dX0_fill_18 ([(h0, .inr (0, [.int p1, .int p2, .int p3, .int p4]))]) rfl 21 rfl ?_
  subst hR
  exact g_vret C hr hlocks hA (by first | (dsimp only; done) | rfl) dX0_fill_21
theorem hd_X0_fillFrom : yX0_fillFrom.cls = RX0 ∧ yX0_fillFrom.cls ≠ "java/lang/invoke/MethodHandle" ∧ yX0_fillFrom.cls ≠ "java/lang/invoke/VarHandle" ∧ (parseMethodDescriptor yX0_fillFrom.desc).map (fun d => d.parameters.length) = some 1 := by decide +kernel
def f_X0_fillFrom (kd1 : Int32) (fg1 : Int32) (cp1 : Int32) (pt1 : Int32) : Int32 × Int32 × Int32 × Int32 :=
  ((f_X0_fill kd1 fg1 cp1 pt1).1, (f_X0_fill kd1 fg1 cp1 pt1).2.1, (f_X0_fill kd1 fg1 cp1 pt1).2.2.1, (f_X0_fill kd1 fg1 cp1 pt1).2.2.2)
set_option maxRecDepth 100000 in
set_option maxHeartbeats 4000000 in
theorem k_X0_fillFrom (l : Launch) (g : gE) (h0 : Nat) (h1 : Nat) (kd : Int32) (fg : Int32) (cp : Int32) (pt : Int32) (kd1 : Int32) (fg1 : Int32) (cp1 : Int32) (pt1 : Int32) : FnV l g yX0_fillFrom wA_X0_fillFrom { frames := 1, cells := 0, slots := 0, locals := 24 } [.ref h0, .ref h1] ([(h0, .inr (0, [.int kd, .int fg, .int cp, .int pt])), (h1, .inr (0, [.int kd1, .int fg1, .int cp1, .int pt1]))])  ([(h0, .inr (0, [.int ((f_X0_fillFrom kd1 fg1 cp1 pt1).1), .int ((f_X0_fillFrom kd1 fg1 cp1 pt1).2.1), .int ((f_X0_fillFrom kd1 fg1 cp1 pt1).2.2.1), .int ((f_X0_fillFrom kd1 fg1 cp1 pt1).2.2.2)])), (h1, .inr (0, [.int kd1, .int fg1, .int cp1, .int pt1]))]) := by
  generalize hR : f_X0_fillFrom kd1 fg1 cp1 pt1 = R_
  refine fEntry (As := [.ref h0, .ref h1]) (maxL := 2) (ret := none) (by decide) rfl [some (.ref h0), some (.ref h1)] (Nat.le_of_ble_eq_true rfl) (lvInB.to (lvInB.sm (lvInB.sm lvInB.nil))) ?_
  intro p e s m below meth c A C hr hlocks hname hA
  have C : Cx p s m _ c g A cX0_fillFrom 2 wA_X0_fillFrom RX0 := C
  rw [f_X0_fillFrom] at hR
  refine g_aload_n C dX0_fillFrom_0 rfl 1 rfl ?_
  refine g_aload_n C dX0_fillFrom_1 rfl 2 rfl ?_
  refine g_get (v := .int kd1) C (hiC hiA_0) 1 rfl rfl 0 (by decide) (List.mem_cons_of_mem _ wl_53) rfl rfl dX0_fillFrom_2 5 rfl ?_
  refine g_aload_n C dX0_fillFrom_5 rfl 6 rfl ?_
  refine g_get (v := .int fg1) C (hiC hiA_0) 1 rfl rfl 1 (by decide) (List.mem_cons_of_mem _ wl_54) rfl rfl dX0_fillFrom_6 9 rfl ?_
  refine g_aload_n C dX0_fillFrom_9 rfl 10 rfl ?_
  refine g_get (v := .int cp1) C (hiC hiA_0) 1 rfl rfl 2 (by decide) (List.mem_cons_of_mem _ wl_55) rfl rfl dX0_fillFrom_10 13 rfl ?_
  refine g_aload_n C dX0_fillFrom_13 rfl 14 rfl ?_
  refine g_get (v := .int pt1) C (hiC hiA_0) 1 rfl rfl 3 (by decide) (List.mem_cons_of_mem _ wl_56) rfl rfl dX0_fillFrom_14 17 rfl ?_
  refine g_callV C (rn_V C (k_X0_fill l g h0 kd fg cp pt kd1 fg1 cp1 pt1) (cwV 4 C.1.2.2.2.2 (gdV wl_150 wl_147 wl_148 wl_149 wl_27) rfl rfl rfl hd_X0_fill ⟨Nat.le_of_ble_eq_true rfl, Nat.le_of_ble_eq_true rfl⟩) 0 rfl rfl [0] rfl rfl rfl rfl (Nat.le_of_ble_eq_true rfl) ⟨Nat.zero_le _, Nat.zero_le _⟩ dX0_fillFrom_17) ([(h0, .inr (0, [.int ((f_X0_fill kd1 fg1 cp1 pt1).1), .int ((f_X0_fill kd1 fg1 cp1 pt1).2.1), .int ((f_X0_fill kd1 fg1 cp1 pt1).2.2.1), .int ((f_X0_fill kd1 fg1 cp1 pt1).2.2.2)])), (h1, .inr (0, [.int kd1, .int fg1, .int cp1, .int pt1]))]) rfl rfl 20 rfl ?_
  subst hR
  exact g_vret C hr hlocks hA (by first | (dsimp only; done) | rfl) dX0_fillFrom_20
theorem hd_X0_gain : yX0_gain.cls = RX0 ∧ yX0_gain.cls ≠ "java/lang/invoke/MethodHandle" ∧ yX0_gain.cls ≠ "java/lang/invoke/VarHandle" ∧ (parseMethodDescriptor yX0_gain.desc).map (fun d => d.parameters.length) = some 1 := by decide +kernel
def f_X0_gain (pt : Int32) (p1 : Int32) : Int32 :=
  (if (pt + p1) < (240 : Int32) then (pt + p1) else (240 : Int32))
set_option maxRecDepth 100000 in
set_option maxHeartbeats 4000000 in
theorem k_X0_gain (l : Launch) (g : gE) (h0 : Nat) (kd : Int32) (fg : Int32) (cp : Int32) (pt : Int32) (p1 : Int32) : FnV l g yX0_gain wA_X0_gain { frames := 1, cells := 0, slots := 0, locals := 16 } [.ref h0, .int p1] ([(h0, .inr (0, [.int kd, .int fg, .int cp, .int pt]))])  ([(h0, .inr (0, [.int kd, .int fg, .int cp, .int (f_X0_gain pt p1)]))]) := by
  generalize hR : f_X0_gain pt p1 = R_
  refine fEntry (As := [.ref h0, .int p1]) (maxL := 2) (ret := none) (by decide) rfl [some (.ref h0), some (.int p1)] (Nat.le_of_ble_eq_true rfl) (lvInB.to (lvInB.sm (lvInB.sm lvInB.nil))) ?_
  intro p e s m below meth c A C hr hlocks hname hA
  have C : Cx p s m _ c g A cX0_gain 2 wA_X0_gain RX0 := C
  rw [f_X0_gain] at hR
  refine g_aload_n C dX0_gain_0 rfl 1 rfl ?_
  refine g_sipush C dX0_gain_1 240 sp_240 4 rfl ?_
  refine g_aload_n C dX0_gain_4 rfl 5 rfl ?_
  refine g_get (v := .int pt) C (hiC hiA_0) 0 rfl rfl 3 (by decide) (List.mem_cons_of_mem _ wl_56) rfl rfl dX0_gain_5 8 rfl ?_
  refine g_iload_n C dX0_gain_8 rfl 9 rfl ?_
  refine g_iadd C dX0_gain_9 10 rfl ?_
  refine g_min C (List.mem_cons_of_mem _ wl_178) (List.mem_cons_of_mem _ wl_179) (List.mem_cons_of_mem _ wl_118) (List.mem_cons_of_mem _ wl_180) (Nat.le_of_ble_eq_true rfl) (Nat.le_of_ble_eq_true rfl) ⟨Nat.zero_le _, Nat.zero_le _⟩ dX0_gain_10 13 rfl ?_
  refine g_put C (hiC hiA_0) tyX0 tyX0_ok nmX0 0 rfl rfl 3 (by decide) (List.mem_cons_of_mem _ wl_56) rfl rfl rfl rfl (Nat.le_of_ble_eq_true rfl) dX0_gain_13 ([(h0, .inr (0, [.int kd, .int fg, .int cp, .int (if (pt + p1) < (240 : Int32) then (pt + p1) else (240 : Int32))]))]) rfl 16 rfl ?_
  subst hR
  exact g_vret C hr hlocks hA (by first | (dsimp only; done) | rfl) dX0_gain_16
theorem hd_X0_coldPoints : yX0_coldPoints.cls = RX0 ∧ yX0_coldPoints.cls ≠ "java/lang/invoke/MethodHandle" ∧ yX0_coldPoints.cls ≠ "java/lang/invoke/VarHandle" ∧ (parseMethodDescriptor yX0_coldPoints.desc).map (fun d => d.parameters.length) = some 0 := by decide +kernel
def f_X0_coldPoints (kd : Int32) : Int32 :=
  if kd = 1 then
    3
  else
    if kd = 2 then
      1
    else
      if kd = 3 then
        1
      else
        if kd = 4 then
          1
        else
          if kd = 5 then
            1
          else
            2
set_option maxRecDepth 100000 in
set_option maxHeartbeats 4000000 in
theorem k_X0_coldPoints (l : Launch) (g : gE) (h0 : Nat) (kd : Int32) (fg : Int32) (cp : Int32) (pt : Int32) : FnI l g yX0_coldPoints wA_X0_coldPoints { frames := 0, cells := 0, slots := 0, locals := 0 } [.ref h0] ([(h0, .inr (0, [.int kd, .int fg, .int cp, .int pt]))]) (f_X0_coldPoints kd) ([(h0, .inr (0, [.int kd, .int fg, .int cp, .int pt]))]) := by
  generalize hR : f_X0_coldPoints kd = R_
  refine fEntry (As := [.ref h0]) (maxL := 1) (ret := (some .int)) (by decide) rfl [some (.ref h0)] (Nat.le_of_ble_eq_true rfl) (lvInB.to (lvInB.sm lvInB.nil)) ?_
  intro p e s m below meth c A C hr hlocks hname hA
  have C : Cx p s m _ c g A cX0_coldPoints 1 wA_X0_coldPoints RX0 := C
  rw [f_X0_coldPoints] at hR
  refine g_aload_n C dX0_coldPoints_0 rfl 1 rfl ?_
  refine g_get (v := .int kd) C (hiC hiA_0) 0 rfl rfl 0 (by decide) (List.mem_cons_of_mem _ wl_53) rfl rfl dX0_coldPoints_1 4 rfl ?_
  rcases Decidable.em (kd = 1) with c_4_1 | c_4_1
  · have hR := (if_pos c_4_1).symm.trans hR
    refine g_tableIn C dX0_coldPoints_4 1 c_4_1 (36) 40 (by decide) ?_
    refine g_iconst C dX0_coldPoints_40 3 ic_3 41 rfl ?_
    subst hR
    exact g_iret C hr hlocks hA (by first | (dsimp only; done) | rfl) (by first | (dsimp only; done) | rfl) dX0_coldPoints_41
  · have hR := (if_neg c_4_1).symm.trans hR
    rcases Decidable.em (kd = 2) with c_4_2 | c_4_2
    · have hR := (if_pos c_4_2).symm.trans hR
      refine g_tableIn C dX0_coldPoints_4 2 c_4_2 (38) 42 (by decide) ?_
      refine g_iconst C dX0_coldPoints_42 1 ic_1 43 rfl ?_
      subst hR
      exact g_iret C hr hlocks hA (by first | (dsimp only; done) | rfl) (by first | (dsimp only; done) | rfl) dX0_coldPoints_43
    · have hR := (if_neg c_4_2).symm.trans hR
      rcases Decidable.em (kd = 3) with c_4_3 | c_4_3
      · have hR := (if_pos c_4_3).symm.trans hR
        refine g_tableIn C dX0_coldPoints_4 3 c_4_3 (40) 44 (by decide) ?_
        refine g_iconst C dX0_coldPoints_44 1 ic_1 45 rfl ?_
        subst hR
        exact g_iret C hr hlocks hA (by first | (dsimp only; done) | rfl) (by first | (dsimp only; done) | rfl) dX0_coldPoints_45
      · have hR := (if_neg c_4_3).symm.trans hR
        rcases Decidable.em (kd = 4) with c_4_4 | c_4_4
        · have hR := (if_pos c_4_4).symm.trans hR
          refine g_tableIn C dX0_coldPoints_4 4 c_4_4 (38) 42 (by decide) ?_
          refine g_iconst C dX0_coldPoints_42 1 ic_1 43 rfl ?_
          subst hR
          exact g_iret C hr hlocks hA (by first | (dsimp only; done) | rfl) (by first | (dsimp only; done) | rfl) dX0_coldPoints_43
        · have hR := (if_neg c_4_4).symm.trans hR
          rcases Decidable.em (kd = 5) with c_4_5 | c_4_5
          · have hR := (if_pos c_4_5).symm.trans hR
            refine g_tableIn C dX0_coldPoints_4 5 c_4_5 (42) 46 (by decide) ?_
            refine g_iconst C dX0_coldPoints_46 1 ic_1 47 rfl ?_
            subst hR
            exact g_iret C hr hlocks hA (by first | (dsimp only; done) | rfl) (by first | (dsimp only; done) | rfl) dX0_coldPoints_47
          · have hR := (if_neg c_4_5).symm.trans hR
            refine g_tableD C dX0_coldPoints_4 [1, 2, 3, 4, 5] (ne_c c_4_1 (ne_c c_4_2 (ne_c c_4_3 (ne_c c_4_4 (ne_c c_4_5 ne_n))))) (by decide +kernel) (by decide +kernel) 48 (by decide) ?_
            refine g_iconst C dX0_coldPoints_48 2 ic_2 49 rfl ?_
            subst hR
            exact g_iret C hr hlocks hA (by first | (dsimp only; done) | rfl) (by first | (dsimp only; done) | rfl) dX0_coldPoints_49
theorem hd_X0_warmPoints : yX0_warmPoints.cls = RX0 ∧ yX0_warmPoints.cls ≠ "java/lang/invoke/MethodHandle" ∧ yX0_warmPoints.cls ≠ "java/lang/invoke/VarHandle" ∧ (parseMethodDescriptor yX0_warmPoints.desc).map (fun d => d.parameters.length) = some 0 := by decide +kernel
def f_X0_warmPoints (kd : Int32) (fg : Int32) : Int32 :=
  if kd = 1 then
    12
  else
    if kd = 2 then
      4
    else
      if kd = 3 then
        (6 - (fg / 2))
      else
        if kd = 4 then
          (4 + fg)
        else
          if kd = 5 then
            3
          else
            6
set_option maxRecDepth 100000 in
set_option maxHeartbeats 4000000 in
theorem k_X0_warmPoints (l : Launch) (g : gE) (h0 : Nat) (kd : Int32) (fg : Int32) (cp : Int32) (pt : Int32) : FnI l g yX0_warmPoints wA_X0_warmPoints { frames := 0, cells := 0, slots := 0, locals := 0 } [.ref h0] ([(h0, .inr (0, [.int kd, .int fg, .int cp, .int pt]))]) (f_X0_warmPoints kd fg) ([(h0, .inr (0, [.int kd, .int fg, .int cp, .int pt]))]) := by
  generalize hR : f_X0_warmPoints kd fg = R_
  refine fEntry (As := [.ref h0]) (maxL := 1) (ret := (some .int)) (by decide) rfl [some (.ref h0)] (Nat.le_of_ble_eq_true rfl) (lvInB.to (lvInB.sm lvInB.nil)) ?_
  intro p e s m below meth c A C hr hlocks hname hA
  have C : Cx p s m _ c g A cX0_warmPoints 1 wA_X0_warmPoints RX0 := C
  rw [f_X0_warmPoints] at hR
  refine g_aload_n C dX0_warmPoints_0 rfl 1 rfl ?_
  refine g_get (v := .int kd) C (hiC hiA_0) 0 rfl rfl 0 (by decide) (List.mem_cons_of_mem _ wl_53) rfl rfl dX0_warmPoints_1 4 rfl ?_
  rcases Decidable.em (kd = 1) with c_4_1 | c_4_1
  · have hR := (if_pos c_4_1).symm.trans hR
    refine g_tableIn C dX0_warmPoints_4 1 c_4_1 (36) 40 (by decide) ?_
    refine g_bipush C dX0_warmPoints_40 12 bp_12 42 rfl ?_
    subst hR
    exact g_iret C hr hlocks hA (by first | (dsimp only; done) | rfl) (by first | (dsimp only; done) | rfl) dX0_warmPoints_42
  · have hR := (if_neg c_4_1).symm.trans hR
    rcases Decidable.em (kd = 2) with c_4_2 | c_4_2
    · have hR := (if_pos c_4_2).symm.trans hR
      refine g_tableIn C dX0_warmPoints_4 2 c_4_2 (39) 43 (by decide) ?_
      refine g_iconst C dX0_warmPoints_43 4 ic_4 44 rfl ?_
      subst hR
      exact g_iret C hr hlocks hA (by first | (dsimp only; done) | rfl) (by first | (dsimp only; done) | rfl) dX0_warmPoints_44
    · have hR := (if_neg c_4_2).symm.trans hR
      rcases Decidable.em (kd = 3) with c_4_3 | c_4_3
      · have hR := (if_pos c_4_3).symm.trans hR
        refine g_tableIn C dX0_warmPoints_4 3 c_4_3 (41) 45 (by decide) ?_
        refine g_bipush C dX0_warmPoints_45 6 bp_6 47 rfl ?_
        refine g_aload_n C dX0_warmPoints_47 rfl 48 rfl ?_
        refine g_get (v := .int fg) C (hiC hiA_0) 0 rfl rfl 1 (by decide) (List.mem_cons_of_mem _ wl_54) rfl rfl dX0_warmPoints_48 51 rfl ?_
        refine g_iconst C dX0_warmPoints_51 2 ic_2 52 rfl ?_
        refine g_idiv C dX0_warmPoints_52 (by decide) 53 rfl ?_
        refine g_isub C dX0_warmPoints_53 54 rfl ?_
        subst hR
        exact g_iret C hr hlocks hA (by first | (dsimp only; done) | rfl) (by first | (dsimp only; done) | rfl) dX0_warmPoints_54
      · have hR := (if_neg c_4_3).symm.trans hR
        rcases Decidable.em (kd = 4) with c_4_4 | c_4_4
        · have hR := (if_pos c_4_4).symm.trans hR
          refine g_tableIn C dX0_warmPoints_4 4 c_4_4 (51) 55 (by decide) ?_
          refine g_iconst C dX0_warmPoints_55 4 ic_4 56 rfl ?_
          refine g_aload_n C dX0_warmPoints_56 rfl 57 rfl ?_
          refine g_get (v := .int fg) C (hiC hiA_0) 0 rfl rfl 1 (by decide) (List.mem_cons_of_mem _ wl_54) rfl rfl dX0_warmPoints_57 60 rfl ?_
          refine g_iadd C dX0_warmPoints_60 61 rfl ?_
          subst hR
          exact g_iret C hr hlocks hA (by first | (dsimp only; done) | rfl) (by first | (dsimp only; done) | rfl) dX0_warmPoints_61
        · have hR := (if_neg c_4_4).symm.trans hR
          rcases Decidable.em (kd = 5) with c_4_5 | c_4_5
          · have hR := (if_pos c_4_5).symm.trans hR
            refine g_tableIn C dX0_warmPoints_4 5 c_4_5 (58) 62 (by decide) ?_
            refine g_iconst C dX0_warmPoints_62 3 ic_3 63 rfl ?_
            subst hR
            exact g_iret C hr hlocks hA (by first | (dsimp only; done) | rfl) (by first | (dsimp only; done) | rfl) dX0_warmPoints_63
          · have hR := (if_neg c_4_5).symm.trans hR
            refine g_tableD C dX0_warmPoints_4 [1, 2, 3, 4, 5] (ne_c c_4_1 (ne_c c_4_2 (ne_c c_4_3 (ne_c c_4_4 (ne_c c_4_5 ne_n))))) (by decide +kernel) (by decide +kernel) 64 (by decide) ?_
            refine g_bipush C dX0_warmPoints_64 6 bp_6 66 rfl ?_
            subst hR
            exact g_iret C hr hlocks hA (by first | (dsimp only; done) | rfl) (by first | (dsimp only; done) | rfl) dX0_warmPoints_66
theorem hd_X0_trueStage : yX0_trueStage.cls = RX0 ∧ yX0_trueStage.cls ≠ "java/lang/invoke/MethodHandle" ∧ yX0_trueStage.cls ≠ "java/lang/invoke/VarHandle" ∧ (parseMethodDescriptor yX0_trueStage.desc).map (fun d => d.parameters.length) = some 0 := by decide +kernel
def f_X0_trueStage (pt : Int32) : Int32 :=
  (if (pt / 48) < (4 : Int32) then (pt / 48) else (4 : Int32))
set_option maxRecDepth 100000 in
set_option maxHeartbeats 4000000 in
theorem k_X0_trueStage (l : Launch) (g : gE) (h0 : Nat) (kd : Int32) (fg : Int32) (cp : Int32) (pt : Int32) : FnI l g yX0_trueStage wA_X0_trueStage { frames := 1, cells := 0, slots := 0, locals := 15 } [.ref h0] ([(h0, .inr (0, [.int kd, .int fg, .int cp, .int pt]))]) (f_X0_trueStage pt) ([(h0, .inr (0, [.int kd, .int fg, .int cp, .int pt]))]) := by
  generalize hR : f_X0_trueStage pt = R_
  refine fEntry (As := [.ref h0]) (maxL := 1) (ret := (some .int)) (by decide) rfl [some (.ref h0)] (Nat.le_of_ble_eq_true rfl) (lvInB.to (lvInB.sm lvInB.nil)) ?_
  intro p e s m below meth c A C hr hlocks hname hA
  have C : Cx p s m _ c g A cX0_trueStage 1 wA_X0_trueStage RX0 := C
  rw [f_X0_trueStage] at hR
  refine g_iconst C dX0_trueStage_0 4 ic_4 1 rfl ?_
  refine g_aload_n C dX0_trueStage_1 rfl 2 rfl ?_
  refine g_get (v := .int pt) C (hiC hiA_0) 0 rfl rfl 3 (by decide) (List.mem_cons_of_mem _ wl_56) rfl rfl dX0_trueStage_2 5 rfl ?_
  refine g_bipush C dX0_trueStage_5 48 bp_48 7 rfl ?_
  refine g_idiv C dX0_trueStage_7 (by decide) 8 rfl ?_
  refine g_min C (List.mem_cons_of_mem _ wl_178) (List.mem_cons_of_mem _ wl_179) (List.mem_cons_of_mem _ wl_118) (List.mem_cons_of_mem _ wl_180) (Nat.le_of_ble_eq_true rfl) (Nat.le_of_ble_eq_true rfl) ⟨Nat.zero_le _, Nat.zero_le _⟩ dX0_trueStage_8 11 rfl ?_
  subst hR
  exact g_iret C hr hlocks hA (by first | (dsimp only; done) | rfl) (by first | (dsimp only; done) | rfl) dX0_trueStage_11
theorem hd_X0_weightOf : yX0_weightOf.cls = RX0 ∧ yX0_weightOf.cls ≠ "java/lang/invoke/MethodHandle" ∧ yX0_weightOf.cls ≠ "java/lang/invoke/VarHandle" ∧ (parseMethodDescriptor yX0_weightOf.desc).map (fun d => d.parameters.length) = some 1 := by decide +kernel
def f_X0_weightOf (kd : Int32) (pt : Int32) (p1 : Int32) : Int32 :=
  if kd = 3 then
    ((if (0 : Int32) < (6 - (2 * (if 0 ≤ (p1 - (f_X0_trueStage pt)) then (p1 - (f_X0_trueStage pt)) else 0 - (p1 - (f_X0_trueStage pt))))) then (6 - (2 * (if 0 ≤ (p1 - (f_X0_trueStage pt)) then (p1 - (f_X0_trueStage pt)) else 0 - (p1 - (f_X0_trueStage pt))))) else (0 : Int32)) + 1)
  else
    (if (0 : Int32) < (6 - (2 * (if 0 ≤ (p1 - (f_X0_trueStage pt)) then (p1 - (f_X0_trueStage pt)) else 0 - (p1 - (f_X0_trueStage pt))))) then (6 - (2 * (if 0 ≤ (p1 - (f_X0_trueStage pt)) then (p1 - (f_X0_trueStage pt)) else 0 - (p1 - (f_X0_trueStage pt))))) else (0 : Int32))
set_option maxRecDepth 100000 in
set_option maxHeartbeats 4000000 in
theorem k_X0_weightOf (l : Launch) (g : gE) (h0 : Nat) (kd : Int32) (fg : Int32) (cp : Int32) (pt : Int32) (p1 : Int32) : FnI l g yX0_weightOf wA_X0_weightOf { frames := 2, cells := 0, slots := 0, locals := 35 } [.ref h0, .int p1] ([(h0, .inr (0, [.int kd, .int fg, .int cp, .int pt]))]) (f_X0_weightOf kd pt p1) ([(h0, .inr (0, [.int kd, .int fg, .int cp, .int pt]))]) := by
  generalize hR : f_X0_weightOf kd pt p1 = R_
  refine fEntry (As := [.ref h0, .int p1]) (maxL := 3) (ret := (some .int)) (by decide) rfl [some (.ref h0), some (.int p1), none] (Nat.le_of_ble_eq_true rfl) (lvInB.to (lvInB.sm (lvInB.sm (lvInB.nn lvInB.nil)))) ?_
  intro p e s m below meth c A C hr hlocks hname hA
  have C : Cx p s m _ c g A cX0_weightOf 3 wA_X0_weightOf RX0 := C
  rw [f_X0_weightOf] at hR
  refine g_iconst C dX0_weightOf_0 0 ic_0 1 rfl ?_
  refine g_bipush C dX0_weightOf_1 6 bp_6 3 rfl ?_
  refine g_iconst C dX0_weightOf_3 2 ic_2 4 rfl ?_
  refine g_iload_n C dX0_weightOf_4 rfl 5 rfl ?_
  refine g_aload_n C dX0_weightOf_5 rfl 6 rfl ?_
  refine g_callIR C (rn_V C (k_X0_trueStage l g h0 kd fg cp pt) (cwV 0 C.1.2.2.2.2 (gdV wl_303 wl_414 wl_301 wl_302 wl_27) rfl rfl rfl hd_X0_trueStage ⟨Nat.le_of_ble_eq_true rfl, Nat.le_of_ble_eq_true rfl⟩) 0 rfl rfl [0] rfl rfl rfl rfl (Nat.le_of_ble_eq_true rfl) ⟨Nat.zero_le _, Nat.zero_le _⟩ dX0_weightOf_6) 9 rfl ?_
  refine g_isub C dX0_weightOf_9 10 rfl ?_
  refine g_abs C (List.mem_cons_of_mem _ wl_410) (List.mem_cons_of_mem _ wl_411) (List.mem_cons_of_mem _ wl_118) (List.mem_cons_of_mem _ wl_412) (Nat.le_of_ble_eq_true rfl) (Nat.le_of_ble_eq_true rfl) ⟨Nat.zero_le _, Nat.zero_le _⟩ dX0_weightOf_10 13 rfl ?_
  refine g_imul C dX0_weightOf_13 14 rfl ?_
  refine g_isub C dX0_weightOf_14 15 rfl ?_
  refine g_max C (List.mem_cons_of_mem _ wl_413) (List.mem_cons_of_mem _ wl_117) (List.mem_cons_of_mem _ wl_118) (List.mem_cons_of_mem _ wl_119) (Nat.le_of_ble_eq_true rfl) (Nat.le_of_ble_eq_true rfl) ⟨Nat.zero_le _, Nat.zero_le _⟩ dX0_weightOf_15 18 rfl ?_
  refine g_istore_n C dX0_weightOf_18 [_, _, _] (Nat.le_of_ble_eq_true rfl) rfl rfl 19 rfl ?_
  refine g_aload_n C dX0_weightOf_19 rfl 20 rfl ?_
  refine g_get (v := .int kd) C (hiC hiA_0) 0 rfl rfl 0 (by decide) (List.mem_cons_of_mem _ wl_53) rfl rfl dX0_weightOf_20 23 rfl ?_
  refine g_iconst C dX0_weightOf_23 3 ic_3 24 rfl ?_
  refine g_icmp_ne C dX0_weightOf_24 hR 33 27 (by decide) rfl (fun c_24 hR => ?_) (fun c_24 hR => ?_)
  · refine g_iload_n C dX0_weightOf_33 rfl 34 rfl ?_
    subst hR
    exact g_iret C hr hlocks hA (by first | (dsimp only; done) | rfl) (by first | (dsimp only; done) | rfl) dX0_weightOf_34
  · refine g_iload_n C dX0_weightOf_27 rfl 28 rfl ?_
    refine g_iconst C dX0_weightOf_28 1 ic_1 29 rfl ?_
    refine g_iadd C dX0_weightOf_29 30 rfl ?_
    refine g_goto C dX0_weightOf_30 34 (by decide) ?_
    subst hR
    exact g_iret C hr hlocks hA (by first | (dsimp only; done) | rfl) (by first | (dsimp only; done) | rfl) dX0_weightOf_34
theorem hd_X0_offTenths : yX0_offTenths.cls = RX0 ∧ yX0_offTenths.cls ≠ "java/lang/invoke/MethodHandle" ∧ yX0_offTenths.cls ≠ "java/lang/invoke/VarHandle" ∧ (parseMethodDescriptor yX0_offTenths.desc).map (fun d => d.parameters.length) = some 2 := by decide +kernel
def f_X0_offTenths (kd : Int32) (p1 : Int32) (p2 : Int32) : Int32 :=
  if p1 = 0 then
    if kd = 1 then
      (f_X3_heldTenths ((f_X3_at_s 0 ((p1 * 5) + p2)) + 1))
    else
      if kd = 5 then
        (f_X3_heldTenths ((f_X3_at_s 0 ((p1 * 5) + p2)) + 1))
      else
        if kd = 2 then
          (f_X3_heldTenths ((f_X3_at_s 0 ((p1 * 5) + p2)) + (-1)))
        else
          if kd = 4 then
            (f_X3_heldTenths ((f_X3_at_s 0 ((p1 * 5) + p2)) + (-1)))
          else
            if p1 = 3 then
              if kd = 3 then
                (f_X3_heldTenths ((f_X3_at_s 0 ((p1 * 5) + p2)) + (-2)))
              else
                (f_X3_heldTenths (f_X3_at_s 0 ((p1 * 5) + p2)))
            else
              (f_X3_heldTenths (f_X3_at_s 0 ((p1 * 5) + p2)))
  else
    if p1 = 3 then
      if kd = 3 then
        (f_X3_heldTenths ((f_X3_at_s 0 ((p1 * 5) + p2)) + (-2)))
      else
        (f_X3_heldTenths (f_X3_at_s 0 ((p1 * 5) + p2)))
    else
      (f_X3_heldTenths (f_X3_at_s 0 ((p1 * 5) + p2)))
set_option maxRecDepth 100000 in
set_option maxHeartbeats 4000000 in
theorem k_X0_offTenths (l : Launch) (g : gE) (h0 : Nat) (kd : Int32) (fg : Int32) (cp : Int32) (pt : Int32) (p1 : Int32) (p2 : Int32) : FnI l g yX0_offTenths wA_X0_offTenths { frames := 2, cells := 0, slots := 0, locals := 36 } [.ref h0, .int p1, .int p2] ([(h0, .inr (0, [.int kd, .int fg, .int cp, .int pt]))]) (f_X0_offTenths kd p1 p2) ([(h0, .inr (0, [.int kd, .int fg, .int cp, .int pt]))]) := by
  generalize hR : f_X0_offTenths kd p1 p2 = R_
  refine fEntry (As := [.ref h0, .int p1, .int p2]) (maxL := 4) (ret := (some .int)) (by decide) rfl [some (.ref h0), some (.int p1), some (.int p2), none] (Nat.le_of_ble_eq_true rfl) (lvInB.to (lvInB.sm (lvInB.sm (lvInB.sm (lvInB.nn lvInB.nil))))) ?_
  intro p e s m below meth c A C hr hlocks hname hA
  have C : Cx p s m _ c g A cX0_offTenths 4 wA_X0_offTenths RX0 := C
  rw [f_X0_offTenths] at hR
  refine g_staticN (host := RX3) C 0 (by decide) (List.mem_of_getElem? (i := 12) rfl) dX0_offTenths_0 3 rfl ?_
  refine g_iload_n C dX0_offTenths_3 rfl 4 rfl ?_
  refine g_iconst C dX0_offTenths_4 5 ic_5 5 rfl ?_
  refine g_imul C dX0_offTenths_5 6 rfl ?_
  refine g_iload_n C dX0_offTenths_6 rfl 7 rfl ?_
  refine g_iadd C dX0_offTenths_7 8 rfl ?_
  refine g_callIR C (rn_SN C (k_X3_at_s l g 0 ((p1 * 5) + p2) (by decide)) ⟨va_cnB 2 C.1.2.2.2.2 (gdA wl_130) rfl rfl rfl (nst C (List.mem_of_getElem? (i := 34) rfl)) (C.1.2.2.2.2 _ (List.mem_cons_of_mem _ wl_2)) hd_X3_at.2 ⟨Nat.le_of_ble_eq_true rfl, Nat.le_of_ble_eq_true rfl⟩, C.1.2.2.2.2 _ (List.mem_cons_of_mem _ wl_129), trivial⟩ [] rfl rfl rfl rfl (Nat.le_of_ble_eq_true rfl) ⟨Nat.zero_le _, Nat.zero_le _⟩ dX0_offTenths_8) 11 rfl ?_
  refine g_istore_n C dX0_offTenths_11 [_, _, _, _] (Nat.le_of_ble_eq_true rfl) rfl rfl 12 rfl ?_
  refine g_iload_n C dX0_offTenths_12 rfl 13 rfl ?_
  refine g_if_ne C dX0_offTenths_13 hR 38 16 (by decide) rfl (fun c_13 hR => ?_) (fun c_13 hR => ?_)
  · refine g_iload_n C dX0_offTenths_38 rfl 39 rfl ?_
    refine g_if_neT C dX0_offTenths_39 c_13 64 (by decide) ?_
    refine g_iload_n C dX0_offTenths_64 rfl 65 rfl ?_
    refine g_iconst C dX0_offTenths_65 3 ic_3 66 rfl ?_
    refine g_icmp_ne C dX0_offTenths_66 hR 80 69 (by decide) rfl (fun c_66 hR => ?_) (fun c_66 hR => ?_)
    · refine g_iload_n C dX0_offTenths_80 rfl 81 rfl ?_
      refine g_callIR C (rn_SN C (k_X3_heldTenths l g (f_X3_at_s 0 ((p1 * 5) + p2))) ⟨va_cnB 1 C.1.2.2.2.2 (gdA wl_422) rfl rfl rfl (nst C (List.mem_of_getElem? (i := 35) rfl)) (C.1.2.2.2.2 _ (List.mem_cons_of_mem _ wl_2)) hd_X3_heldTenths.2 ⟨Nat.le_of_ble_eq_true rfl, Nat.le_of_ble_eq_true rfl⟩, C.1.2.2.2.2 _ (List.mem_cons_of_mem _ wl_421), trivial⟩ [] rfl rfl rfl rfl (Nat.le_of_ble_eq_true rfl) ⟨Nat.zero_le _, Nat.zero_le _⟩ dX0_offTenths_81) 84 rfl ?_
      subst hR
      exact g_iret C hr hlocks hA (by first | (dsimp only; done) | rfl) (by first | (dsimp only; done) | rfl) dX0_offTenths_84
    · refine g_aload_n C dX0_offTenths_69 rfl 70 rfl ?_
      refine g_get (v := .int kd) C (hiC hiA_0) 0 rfl rfl 0 (by decide) (List.mem_cons_of_mem _ wl_53) rfl rfl dX0_offTenths_70 73 rfl ?_
      refine g_iconst C dX0_offTenths_73 3 ic_3 74 rfl ?_
      refine g_icmp_ne C dX0_offTenths_74 hR 80 77 (by decide) rfl (fun c_74 hR => ?_) (fun c_74 hR => ?_)
      · refine g_iload_n C dX0_offTenths_80 rfl 81 rfl ?_
        refine g_callIR C (rn_SN C (k_X3_heldTenths l g (f_X3_at_s 0 ((p1 * 5) + p2))) ⟨va_cnB 1 C.1.2.2.2.2 (gdA wl_422) rfl rfl rfl (nst C (List.mem_of_getElem? (i := 35) rfl)) (C.1.2.2.2.2 _ (List.mem_cons_of_mem _ wl_2)) hd_X3_heldTenths.2 ⟨Nat.le_of_ble_eq_true rfl, Nat.le_of_ble_eq_true rfl⟩, C.1.2.2.2.2 _ (List.mem_cons_of_mem _ wl_421), trivial⟩ [] rfl rfl rfl rfl (Nat.le_of_ble_eq_true rfl) ⟨Nat.zero_le _, Nat.zero_le _⟩ dX0_offTenths_81) 84 rfl ?_
        subst hR
        exact g_iret C hr hlocks hA (by first | (dsimp only; done) | rfl) (by first | (dsimp only; done) | rfl) dX0_offTenths_84
      · refine g_iinc C dX0_offTenths_77 rfl (-2) ic_m2 [_, _, _, _] (Nat.le_of_ble_eq_true rfl) rfl rfl 80 rfl ?_
        refine g_iload_n C dX0_offTenths_80 rfl 81 rfl ?_
        refine g_callIR C (rn_SN C (k_X3_heldTenths l g ((f_X3_at_s 0 ((p1 * 5) + p2)) + (-2))) ⟨va_cnB 1 C.1.2.2.2.2 (gdA wl_422) rfl rfl rfl (nst C (List.mem_of_getElem? (i := 35) rfl)) (C.1.2.2.2.2 _ (List.mem_cons_of_mem _ wl_2)) hd_X3_heldTenths.2 ⟨Nat.le_of_ble_eq_true rfl, Nat.le_of_ble_eq_true rfl⟩, C.1.2.2.2.2 _ (List.mem_cons_of_mem _ wl_421), trivial⟩ [] rfl rfl rfl rfl (Nat.le_of_ble_eq_true rfl) ⟨Nat.zero_le _, Nat.zero_le _⟩ dX0_offTenths_81) 84 rfl ?_
        subst hR
        exact g_iret C hr hlocks hA (by first | (dsimp only; done) | rfl) (by first | (dsimp only; done) | rfl) dX0_offTenths_84
  · refine g_aload_n C dX0_offTenths_16 rfl 17 rfl ?_
    refine g_get (v := .int kd) C (hiC hiA_0) 0 rfl rfl 0 (by decide) (List.mem_cons_of_mem _ wl_53) rfl rfl dX0_offTenths_17 20 rfl ?_
    refine g_iconst C dX0_offTenths_20 1 ic_1 21 rfl ?_
    refine g_icmp_eq C dX0_offTenths_21 hR 32 24 (by decide) rfl (fun c_21 hR => ?_) (fun c_21 hR => ?_)
    · refine g_iinc C dX0_offTenths_32 rfl 1 ic_1 [_, _, _, _] (Nat.le_of_ble_eq_true rfl) rfl rfl 35 rfl ?_
      refine g_goto C dX0_offTenths_35 80 (by decide) ?_
      refine g_iload_n C dX0_offTenths_80 rfl 81 rfl ?_
      refine g_callIR C (rn_SN C (k_X3_heldTenths l g ((f_X3_at_s 0 ((p1 * 5) + p2)) + 1)) ⟨va_cnB 1 C.1.2.2.2.2 (gdA wl_422) rfl rfl rfl (nst C (List.mem_of_getElem? (i := 35) rfl)) (C.1.2.2.2.2 _ (List.mem_cons_of_mem _ wl_2)) hd_X3_heldTenths.2 ⟨Nat.le_of_ble_eq_true rfl, Nat.le_of_ble_eq_true rfl⟩, C.1.2.2.2.2 _ (List.mem_cons_of_mem _ wl_421), trivial⟩ [] rfl rfl rfl rfl (Nat.le_of_ble_eq_true rfl) ⟨Nat.zero_le _, Nat.zero_le _⟩ dX0_offTenths_81) 84 rfl ?_
      subst hR
      exact g_iret C hr hlocks hA (by first | (dsimp only; done) | rfl) (by first | (dsimp only; done) | rfl) dX0_offTenths_84
    · refine g_aload_n C dX0_offTenths_24 rfl 25 rfl ?_
      refine g_get (v := .int kd) C (hiC hiA_0) 0 rfl rfl 0 (by decide) (List.mem_cons_of_mem _ wl_53) rfl rfl dX0_offTenths_25 28 rfl ?_
      refine g_iconst C dX0_offTenths_28 5 ic_5 29 rfl ?_
      refine g_icmp_ne C dX0_offTenths_29 hR 38 32 (by decide) rfl (fun c_29 hR => ?_) (fun c_29 hR => ?_)
      · refine g_iload_n C dX0_offTenths_38 rfl 39 rfl ?_
        refine g_if_neF C dX0_offTenths_39 c_13 64 42 (by decide) rfl ?_
        refine g_aload_n C dX0_offTenths_42 rfl 43 rfl ?_
        refine g_get (v := .int kd) C (hiC hiA_0) 0 rfl rfl 0 (by decide) (List.mem_cons_of_mem _ wl_53) rfl rfl dX0_offTenths_43 46 rfl ?_
        refine g_iconst C dX0_offTenths_46 2 ic_2 47 rfl ?_
        refine g_icmp_eq C dX0_offTenths_47 hR 58 50 (by decide) rfl (fun c_47 hR => ?_) (fun c_47 hR => ?_)
        · refine g_iinc C dX0_offTenths_58 rfl (-1) ic_m1 [_, _, _, _] (Nat.le_of_ble_eq_true rfl) rfl rfl 61 rfl ?_
          refine g_goto C dX0_offTenths_61 80 (by decide) ?_
          refine g_iload_n C dX0_offTenths_80 rfl 81 rfl ?_
          refine g_callIR C (rn_SN C (k_X3_heldTenths l g ((f_X3_at_s 0 ((p1 * 5) + p2)) + (-1))) ⟨va_cnB 1 C.1.2.2.2.2 (gdA wl_422) rfl rfl rfl (nst C (List.mem_of_getElem? (i := 35) rfl)) (C.1.2.2.2.2 _ (List.mem_cons_of_mem _ wl_2)) hd_X3_heldTenths.2 ⟨Nat.le_of_ble_eq_true rfl, Nat.le_of_ble_eq_true rfl⟩, C.1.2.2.2.2 _ (List.mem_cons_of_mem _ wl_421), trivial⟩ [] rfl rfl rfl rfl (Nat.le_of_ble_eq_true rfl) ⟨Nat.zero_le _, Nat.zero_le _⟩ dX0_offTenths_81) 84 rfl ?_
          subst hR
          exact g_iret C hr hlocks hA (by first | (dsimp only; done) | rfl) (by first | (dsimp only; done) | rfl) dX0_offTenths_84
        · refine g_aload_n C dX0_offTenths_50 rfl 51 rfl ?_
          refine g_get (v := .int kd) C (hiC hiA_0) 0 rfl rfl 0 (by decide) (List.mem_cons_of_mem _ wl_53) rfl rfl dX0_offTenths_51 54 rfl ?_
          refine g_iconst C dX0_offTenths_54 4 ic_4 55 rfl ?_
          refine g_icmp_ne C dX0_offTenths_55 hR 64 58 (by decide) rfl (fun c_55 hR => ?_) (fun c_55 hR => ?_)
          · refine g_iload_n C dX0_offTenths_64 rfl 65 rfl ?_
            refine g_iconst C dX0_offTenths_65 3 ic_3 66 rfl ?_
            refine g_icmp_ne C dX0_offTenths_66 hR 80 69 (by decide) rfl (fun c_66 hR => ?_) (fun c_66 hR => ?_)
            · refine g_iload_n C dX0_offTenths_80 rfl 81 rfl ?_
              refine g_callIR C (rn_SN C (k_X3_heldTenths l g (f_X3_at_s 0 ((p1 * 5) + p2))) ⟨va_cnB 1 C.1.2.2.2.2 (gdA wl_422) rfl rfl rfl (nst C (List.mem_of_getElem? (i := 35) rfl)) (C.1.2.2.2.2 _ (List.mem_cons_of_mem _ wl_2)) hd_X3_heldTenths.2 ⟨Nat.le_of_ble_eq_true rfl, Nat.le_of_ble_eq_true rfl⟩, C.1.2.2.2.2 _ (List.mem_cons_of_mem _ wl_421), trivial⟩ [] rfl rfl rfl rfl (Nat.le_of_ble_eq_true rfl) ⟨Nat.zero_le _, Nat.zero_le _⟩ dX0_offTenths_81) 84 rfl ?_
              subst hR
              exact g_iret C hr hlocks hA (by first | (dsimp only; done) | rfl) (by first | (dsimp only; done) | rfl) dX0_offTenths_84
            · refine g_aload_n C dX0_offTenths_69 rfl 70 rfl ?_
              refine g_get (v := .int kd) C (hiC hiA_0) 0 rfl rfl 0 (by decide) (List.mem_cons_of_mem _ wl_53) rfl rfl dX0_offTenths_70 73 rfl ?_
              refine g_iconst C dX0_offTenths_73 3 ic_3 74 rfl ?_
              refine g_icmp_ne C dX0_offTenths_74 hR 80 77 (by decide) rfl (fun c_74 hR => ?_) (fun c_74 hR => ?_)
              · refine g_iload_n C dX0_offTenths_80 rfl 81 rfl ?_
                refine g_callIR C (rn_SN C (k_X3_heldTenths l g (f_X3_at_s 0 ((p1 * 5) + p2))) ⟨va_cnB 1 C.1.2.2.2.2 (gdA wl_422) rfl rfl rfl (nst C (List.mem_of_getElem? (i := 35) rfl)) (C.1.2.2.2.2 _ (List.mem_cons_of_mem _ wl_2)) hd_X3_heldTenths.2 ⟨Nat.le_of_ble_eq_true rfl, Nat.le_of_ble_eq_true rfl⟩, C.1.2.2.2.2 _ (List.mem_cons_of_mem _ wl_421), trivial⟩ [] rfl rfl rfl rfl (Nat.le_of_ble_eq_true rfl) ⟨Nat.zero_le _, Nat.zero_le _⟩ dX0_offTenths_81) 84 rfl ?_
                subst hR
                exact g_iret C hr hlocks hA (by first | (dsimp only; done) | rfl) (by first | (dsimp only; done) | rfl) dX0_offTenths_84
              · refine g_iinc C dX0_offTenths_77 rfl (-2) ic_m2 [_, _, _, _] (Nat.le_of_ble_eq_true rfl) rfl rfl 80 rfl ?_
                refine g_iload_n C dX0_offTenths_80 rfl 81 rfl ?_
                refine g_callIR C (rn_SN C (k_X3_heldTenths l g ((f_X3_at_s 0 ((p1 * 5) + p2)) + (-2))) ⟨va_cnB 1 C.1.2.2.2.2 (gdA wl_422) rfl rfl rfl (nst C (List.mem_of_getElem? (i := 35) rfl)) (C.1.2.2.2.2 _ (List.mem_cons_of_mem _ wl_2)) hd_X3_heldTenths.2 ⟨Nat.le_of_ble_eq_true rfl, Nat.le_of_ble_eq_true rfl⟩, C.1.2.2.2.2 _ (List.mem_cons_of_mem _ wl_421), trivial⟩ [] rfl rfl rfl rfl (Nat.le_of_ble_eq_true rfl) ⟨Nat.zero_le _, Nat.zero_le _⟩ dX0_offTenths_81) 84 rfl ?_
                subst hR
                exact g_iret C hr hlocks hA (by first | (dsimp only; done) | rfl) (by first | (dsimp only; done) | rfl) dX0_offTenths_84
          · refine g_iinc C dX0_offTenths_58 rfl (-1) ic_m1 [_, _, _, _] (Nat.le_of_ble_eq_true rfl) rfl rfl 61 rfl ?_
            refine g_goto C dX0_offTenths_61 80 (by decide) ?_
            refine g_iload_n C dX0_offTenths_80 rfl 81 rfl ?_
            refine g_callIR C (rn_SN C (k_X3_heldTenths l g ((f_X3_at_s 0 ((p1 * 5) + p2)) + (-1))) ⟨va_cnB 1 C.1.2.2.2.2 (gdA wl_422) rfl rfl rfl (nst C (List.mem_of_getElem? (i := 35) rfl)) (C.1.2.2.2.2 _ (List.mem_cons_of_mem _ wl_2)) hd_X3_heldTenths.2 ⟨Nat.le_of_ble_eq_true rfl, Nat.le_of_ble_eq_true rfl⟩, C.1.2.2.2.2 _ (List.mem_cons_of_mem _ wl_421), trivial⟩ [] rfl rfl rfl rfl (Nat.le_of_ble_eq_true rfl) ⟨Nat.zero_le _, Nat.zero_le _⟩ dX0_offTenths_81) 84 rfl ?_
            subst hR
            exact g_iret C hr hlocks hA (by first | (dsimp only; done) | rfl) (by first | (dsimp only; done) | rfl) dX0_offTenths_84
      · refine g_iinc C dX0_offTenths_32 rfl 1 ic_1 [_, _, _, _] (Nat.le_of_ble_eq_true rfl) rfl rfl 35 rfl ?_
        refine g_goto C dX0_offTenths_35 80 (by decide) ?_
        refine g_iload_n C dX0_offTenths_80 rfl 81 rfl ?_
        refine g_callIR C (rn_SN C (k_X3_heldTenths l g ((f_X3_at_s 0 ((p1 * 5) + p2)) + 1)) ⟨va_cnB 1 C.1.2.2.2.2 (gdA wl_422) rfl rfl rfl (nst C (List.mem_of_getElem? (i := 35) rfl)) (C.1.2.2.2.2 _ (List.mem_cons_of_mem _ wl_2)) hd_X3_heldTenths.2 ⟨Nat.le_of_ble_eq_true rfl, Nat.le_of_ble_eq_true rfl⟩, C.1.2.2.2.2 _ (List.mem_cons_of_mem _ wl_421), trivial⟩ [] rfl rfl rfl rfl (Nat.le_of_ble_eq_true rfl) ⟨Nat.zero_le _, Nat.zero_le _⟩ dX0_offTenths_81) 84 rfl ?_
        subst hR
        exact g_iret C hr hlocks hA (by first | (dsimp only; done) | rfl) (by first | (dsimp only; done) | rfl) dX0_offTenths_84
