theorem hd_X3_at : yX3_at.cls = RX3 ∧ yX3_at.cls ≠ "java/lang/invoke/MethodHandle" ∧ yX3_at.cls ≠ "java/lang/invoke/VarHandle" ∧ (parseMethodDescriptor yX3_at.desc).map (fun d => d.parameters.length) = some 2 := by decide +kernel
def f_X3_at (F : Nat → Int32) (N : Nat) (p0 : Int32) : Int32 :=
  if p0 < 0 then
    0
  else
    if (Int32.ofNat N) ≤ p0 then
      0
    else
      (F (Int32.toNatClampNeg p0))
set_option maxRecDepth 100000 in
set_option maxHeartbeats 4000000 in
theorem k_X3_at (l : Launch) (g : gE) (h1 : Nat) (F : Nat → Int32) (N : Nat) (p0 : Int32) (hN : N < 2147483648) : FnI l g yX3_at wA_X3_at { frames := 0, cells := 0, slots := 0, locals := 0 } [.ref h1, .int p0] ([(h1, .inl (g.2.1 0, N, .inl F))]) (f_X3_at F N p0) ([(h1, .inl (g.2.1 0, N, .inl F))]) := by
  generalize hR : f_X3_at F N p0 = R_
  refine fEntry (As := [.ref h1, .int p0]) (maxL := 2) (ret := (some .int)) (by decide) rfl [some (.ref h1), some (.int p0)] (Nat.le_of_ble_eq_true rfl) (lvInB.to (lvInB.sm (lvInB.sm lvInB.nil))) ?_
  intro p e s m below meth c A C hr hlocks hname hA
  have C : Cx p s m _ c g A cX3_at 2 wA_X3_at RX3 := C
  rw [f_X3_at] at hR
  refine g_iload_n C dX3_at_0 rfl 1 rfl ?_
  refine g_if_lt C dX3_at_1 hR 16 4 (by decide) rfl (fun c_1 hR => ?_) (fun c_1 hR => ?_)
  · refine g_iconst C dX3_at_16 0 ic_0 17 rfl ?_
    subst hR
    exact g_iret C hr hlocks hA (by first | (dsimp only; done) | rfl) (by first | (dsimp only; done) | rfl) dX3_at_17
  · refine g_iload_n C dX3_at_4 rfl 5 rfl ?_
    refine g_aload_n C dX3_at_5 rfl 6 rfl ?_
    refine g_alen C 0 0 rfl rfl (Int32.ofNat N) rfl dX3_at_6 7 rfl ?_
    refine g_icmp_ge C dX3_at_7 hR 16 10 (by decide) rfl (fun c_7 hR => ?_) (fun c_7 hR => ?_)
    · refine g_iconst C dX3_at_16 0 ic_0 17 rfl ?_
      subst hR
      exact g_iret C hr hlocks hA (by first | (dsimp only; done) | rfl) (by first | (dsimp only; done) | rfl) dX3_at_17
    · refine g_aload_n C dX3_at_10 rfl 11 rfl ?_
      refine g_iload_n C dX3_at_11 rfl 12 rfl ?_
      refine g_iald (f := F) C 0 rfl (at_in c_1 c_7 hN) dX3_at_12 13 rfl ?_
      refine g_goto C dX3_at_13 17 (by decide) ?_
      subst hR
      exact g_iret C hr hlocks hA (by first | (dsimp only; done) | rfl) (by first | (dsimp only; done) | rfl) dX3_at_17
def f_X3_at_s (k : Nat) (p0 : Int32) : Int32 :=
  if p0 < 0 then
    0
  else
    if (Int32.ofNat (sTb k).length) ≤ p0 then
      0
    else
      (sFn k (Int32.toNatClampNeg p0))
set_option maxRecDepth 100000 in
set_option maxHeartbeats 4000000 in
theorem k_X3_at_s (l : Launch) (g : gE) (k : Nat) (p0 : Int32) (hk : k < 4) : FnI l g yX3_at wA_X3_at { frames := 0, cells := 0, slots := 0, locals := 0 } [.ref (g.2.2 k), .int p0] ([]) (f_X3_at_s k p0) ([]) := by
  generalize hR : f_X3_at_s k p0 = R_
  refine fEntry (As := [.ref (g.2.2 k), .int p0]) (maxL := 2) (ret := (some .int)) (by decide) rfl [some (.ref (g.2.2 k)), some (.int p0)] (Nat.le_of_ble_eq_true rfl) (lvInB.to (lvInB.sm (lvInB.sm lvInB.nil))) ?_
  intro p e s m below meth c A C hr hlocks hname hA
  have C : Cx p s m _ c g A cX3_at 2 wA_X3_at RX3 := C
  rw [f_X3_at_s] at hR
  refine g_iload_n C dX3_at_0 rfl 1 rfl ?_
  refine g_if_lt C dX3_at_1 hR 16 4 (by decide) rfl (fun c_1 hR => ?_) (fun c_1 hR => ?_)
  · refine g_iconst C dX3_at_16 0 ic_0 17 rfl ?_
    subst hR
    exact g_iret C hr hlocks hA (by first | (dsimp only; done) | rfl) (by first | (dsimp only; done) | rfl) dX3_at_17
  · refine g_iload_n C dX3_at_4 rfl 5 rfl ?_
    refine g_aload_n C dX3_at_5 rfl 6 rfl ?_
    refine g_salen C k hk (Int32.ofNat (sTb k).length) rfl dX3_at_6 7 rfl ?_
    refine g_icmp_ge C dX3_at_7 hR 16 10 (by decide) rfl (fun c_7 hR => ?_) (fun c_7 hR => ?_)
    · refine g_iconst C dX3_at_16 0 ic_0 17 rfl ?_
      subst hR
      exact g_iret C hr hlocks hA (by first | (dsimp only; done) | rfl) (by first | (dsimp only; done) | rfl) dX3_at_17
    · refine g_aload_n C dX3_at_10 rfl 11 rfl ?_
      refine g_iload_n C dX3_at_11 rfl 12 rfl ?_
      refine g_siald C k hk (at_in c_1 c_7 (sTb_len k)) dX3_at_12 13 rfl ?_
      refine g_goto C dX3_at_13 17 (by decide) ?_
      subst hR
      exact g_iret C hr hlocks hA (by first | (dsimp only; done) | rfl) (by first | (dsimp only; done) | rfl) dX3_at_17
theorem hd_X3_isOneOf : yX3_isOneOf.cls = RX3 ∧ yX3_isOneOf.cls ≠ "java/lang/invoke/MethodHandle" ∧ yX3_isOneOf.cls ≠ "java/lang/invoke/VarHandle" ∧ (parseMethodDescriptor yX3_isOneOf.desc).map (fun d => d.parameters.length) = some 2 := by decide +kernel
def f_X3_isOneOf (p0 : Int32) (p1 : Int32) : Bool :=
  if p0 < 0 then
    false
  else
    if p1 ≤ p0 then
      false
    else
      true
set_option maxRecDepth 100000 in
set_option maxHeartbeats 4000000 in
theorem k_X3_isOneOf (l : Launch) (g : gE) (p0 : Int32) (p1 : Int32) : FnI l g yX3_isOneOf wA_X3_isOneOf { frames := 0, cells := 0, slots := 0, locals := 0 } [.int p0, .int p1] ([]) (b2i (f_X3_isOneOf p0 p1)) ([]) := by
  generalize hR : f_X3_isOneOf p0 p1 = R_
  refine fEntry (As := [.int p0, .int p1]) (maxL := 2) (ret := (some .boolean)) (by decide) rfl [some (.int p0), some (.int p1)] (Nat.le_of_ble_eq_true rfl) (lvInB.to (lvInB.sm (lvInB.sm lvInB.nil))) ?_
  intro p e s m below meth c A C hr hlocks hname hA
  have C : Cx p s m _ c g A cX3_isOneOf 2 wA_X3_isOneOf RX3 := C
  rw [f_X3_isOneOf] at hR
  refine g_iload_n C dX3_isOneOf_0 rfl 1 rfl ?_
  refine g_if_lt C dX3_isOneOf_1 hR 13 4 (by decide) rfl (fun c_1 hR => ?_) (fun c_1 hR => ?_)
  · refine g_iconst C dX3_isOneOf_13 0 ic_0 14 rfl ?_
    subst hR
    exact g_zret C hr hlocks (by decide) hA rfl (by first | (dsimp only; done) | rfl) dX3_isOneOf_14
  · refine g_iload_n C dX3_isOneOf_4 rfl 5 rfl ?_
    refine g_iload_n C dX3_isOneOf_5 rfl 6 rfl ?_
    refine g_icmp_ge C dX3_isOneOf_6 hR 13 9 (by decide) rfl (fun c_6 hR => ?_) (fun c_6 hR => ?_)
    · refine g_iconst C dX3_isOneOf_13 0 ic_0 14 rfl ?_
      subst hR
      exact g_zret C hr hlocks (by decide) hA rfl (by first | (dsimp only; done) | rfl) dX3_isOneOf_14
    · refine g_iconst C dX3_isOneOf_9 1 ic_1 10 rfl ?_
      refine g_goto C dX3_isOneOf_10 14 (by decide) ?_
      subst hR
      exact g_zret C hr hlocks (by decide) hA rfl (by first | (dsimp only; done) | rfl) dX3_isOneOf_14
theorem one_in {x : Int32} {N : Nat} (h : ¬ (b2i (f_X3_isOneOf x (Int32.ofNat N))) = 0) (hN : N < 2147483648) : vp_in x N := by
  unfold f_X3_isOneOf at h
  split at h
  · exact absurd rfl h
  · split at h
    · exact absurd rfl h
    · exact at_in (by assumption) (by assumption) hN
theorem jug_in {x N : Int32} (h : ¬ (b2i (f_X3_isOneOf x N)) = 0) (h2 : ¬ (5 : Int32) ≤ x) : vp_in x 5 := by
  unfold f_X3_isOneOf at h
  split at h
  · exact absurd rfl h
  · exact at_in (by assumption) h2 (by decide)

theorem hd_X3_heldTenths : yX3_heldTenths.cls = RX3 ∧ yX3_heldTenths.cls ≠ "java/lang/invoke/MethodHandle" ∧ yX3_heldTenths.cls ≠ "java/lang/invoke/VarHandle" ∧ (parseMethodDescriptor yX3_heldTenths.desc).map (fun d => d.parameters.length) = some 1 := by decide +kernel
def f_X3_heldTenths (p0 : Int32) : Int32 :=
  (if (0 : Int32) < (if p0 < (10 : Int32) then p0 else (10 : Int32)) then (if p0 < (10 : Int32) then p0 else (10 : Int32)) else (0 : Int32))
set_option maxRecDepth 100000 in
set_option maxHeartbeats 4000000 in
theorem k_X3_heldTenths (l : Launch) (g : gE) (p0 : Int32) : FnI l g yX3_heldTenths wA_X3_heldTenths { frames := 1, cells := 0, slots := 0, locals := 16 } [.int p0] ([]) (f_X3_heldTenths p0) ([]) := by
  generalize hR : f_X3_heldTenths p0 = R_
  refine fEntry (As := [.int p0]) (maxL := 1) (ret := (some .int)) (by decide) rfl [some (.int p0)] (Nat.le_of_ble_eq_true rfl) (lvInB.to (lvInB.sm lvInB.nil)) ?_
  intro p e s m below meth c A C hr hlocks hname hA
  have C : Cx p s m _ c g A cX3_heldTenths 1 wA_X3_heldTenths RX3 := C
  rw [f_X3_heldTenths] at hR
  refine g_iconst C dX3_heldTenths_0 0 ic_0 1 rfl ?_
  refine g_bipush C dX3_heldTenths_1 10 bp_10 3 rfl ?_
  refine g_iload_n C dX3_heldTenths_3 rfl 4 rfl ?_
  refine g_min C (List.mem_cons_of_mem _ wl_423) (List.mem_cons_of_mem _ wl_179) (List.mem_cons_of_mem _ wl_118) (List.mem_cons_of_mem _ wl_180) (Nat.le_of_ble_eq_true rfl) (Nat.le_of_ble_eq_true rfl) ⟨Nat.zero_le _, Nat.zero_le _⟩ dX3_heldTenths_4 7 rfl ?_
  refine g_max C (List.mem_cons_of_mem _ wl_116) (List.mem_cons_of_mem _ wl_117) (List.mem_cons_of_mem _ wl_118) (List.mem_cons_of_mem _ wl_119) (Nat.le_of_ble_eq_true rfl) (Nat.le_of_ble_eq_true rfl) ⟨Nat.zero_le _, Nat.zero_le _⟩ dX3_heldTenths_7 10 rfl ?_
  subst hR
  exact g_iret C hr hlocks hA (by first | (dsimp only; done) | rfl) (by first | (dsimp only; done) | rfl) dX3_heldTenths_10
theorem hd_X3_refusalOutside : yX3_refusalOutside.cls = RX3 ∧ yX3_refusalOutside.cls ≠ "java/lang/invoke/MethodHandle" ∧ yX3_refusalOutside.cls ≠ "java/lang/invoke/VarHandle" ∧ (parseMethodDescriptor yX3_refusalOutside.desc).map (fun d => d.parameters.length) = some 3 := by decide +kernel
def f_X3_refusalOutside (p0 : Int32) (p1 : Int32) (p2 : Int32) : Int32 :=
  if p1 ≤ p0 then
    if p0 ≤ p2 then
      0
    else
      (-6)
  else
    (-4)
set_option maxRecDepth 100000 in
set_option maxHeartbeats 4000000 in
theorem k_X3_refusalOutside (l : Launch) (g : gE) (p0 : Int32) (p1 : Int32) (p2 : Int32) : FnI l g yX3_refusalOutside wA_X3_refusalOutside { frames := 0, cells := 0, slots := 0, locals := 0 } [.int p0, .int p1, .int p2] ([]) (f_X3_refusalOutside p0 p1 p2) ([]) := by
  generalize hR : f_X3_refusalOutside p0 p1 p2 = R_
  refine fEntry (As := [.int p0, .int p1, .int p2]) (maxL := 3) (ret := (some .int)) (by decide) rfl [some (.int p0), some (.int p1), some (.int p2)] (Nat.le_of_ble_eq_true rfl) (lvInB.to (lvInB.sm (lvInB.sm (lvInB.sm lvInB.nil)))) ?_
  intro p e s m below meth c A C hr hlocks hname hA
  have C : Cx p s m _ c g A cX3_refusalOutside 3 wA_X3_refusalOutside RX3 := C
  rw [f_X3_refusalOutside] at hR
  refine g_iload_n C dX3_refusalOutside_0 rfl 1 rfl ?_
  refine g_iload_n C dX3_refusalOutside_1 rfl 2 rfl ?_
  refine g_icmp_ge C dX3_refusalOutside_2 hR 8 5 (by decide) rfl (fun c_2 hR => ?_) (fun c_2 hR => ?_)
  · refine g_iload_n C dX3_refusalOutside_8 rfl 9 rfl ?_
    refine g_iload_n C dX3_refusalOutside_9 rfl 10 rfl ?_
    refine g_icmp_le C dX3_refusalOutside_10 hR 18 13 (by decide) rfl (fun c_10 hR => ?_) (fun c_10 hR => ?_)
    · refine g_iconst C dX3_refusalOutside_18 0 ic_0 19 rfl ?_
      subst hR
      exact g_iret C hr hlocks hA (by first | (dsimp only; done) | rfl) (by first | (dsimp only; done) | rfl) dX3_refusalOutside_19
    · refine g_bipush C dX3_refusalOutside_13 (-6) bp_m6 15 rfl ?_
      refine g_goto C dX3_refusalOutside_15 19 (by decide) ?_
      subst hR
      exact g_iret C hr hlocks hA (by first | (dsimp only; done) | rfl) (by first | (dsimp only; done) | rfl) dX3_refusalOutside_19
  · refine g_bipush C dX3_refusalOutside_5 (-4) bp_m4 7 rfl ?_
    subst hR
    exact g_iret C hr hlocks hA (by first | (dsimp only; done) | rfl) (by first | (dsimp only; done) | rfl) dX3_refusalOutside_7
theorem hd_X3_isDigit : yX3_isDigit.cls = RX3 ∧ yX3_isDigit.cls ≠ "java/lang/invoke/MethodHandle" ∧ yX3_isDigit.cls ≠ "java/lang/invoke/VarHandle" ∧ (parseMethodDescriptor yX3_isDigit.desc).map (fun d => d.parameters.length) = some 1 := by decide +kernel
def f_X3_isDigit (p0 : Int32) : Bool :=
  if p0 < 48 then
    false
  else
    if 57 < p0 then
      false
    else
      true
set_option maxRecDepth 100000 in
set_option maxHeartbeats 4000000 in
theorem k_X3_isDigit (l : Launch) (g : gE) (p0 : Int32) : FnI l g yX3_isDigit wA_X3_isDigit { frames := 0, cells := 0, slots := 0, locals := 0 } [.int p0] ([]) (b2i (f_X3_isDigit p0)) ([]) := by
  generalize hR : f_X3_isDigit p0 = R_
  refine fEntry (As := [.int p0]) (maxL := 1) (ret := (some .boolean)) (by decide) rfl [some (.int p0)] (Nat.le_of_ble_eq_true rfl) (lvInB.to (lvInB.sm lvInB.nil)) ?_
  intro p e s m below meth c A C hr hlocks hname hA
  have C : Cx p s m _ c g A cX3_isDigit 1 wA_X3_isDigit RX3 := C
  rw [f_X3_isDigit] at hR
  refine g_iload_n C dX3_isDigit_0 rfl 1 rfl ?_
  refine g_bipush C dX3_isDigit_1 48 bp_48 3 rfl ?_
  refine g_icmp_lt C dX3_isDigit_3 hR 16 6 (by decide) rfl (fun c_3 hR => ?_) (fun c_3 hR => ?_)
  · refine g_iconst C dX3_isDigit_16 0 ic_0 17 rfl ?_
    subst hR
    exact g_zret C hr hlocks (by decide) hA rfl (by first | (dsimp only; done) | rfl) dX3_isDigit_17
  · refine g_iload_n C dX3_isDigit_6 rfl 7 rfl ?_
    refine g_bipush C dX3_isDigit_7 57 bp_57 9 rfl ?_
    refine g_icmp_gt C dX3_isDigit_9 hR 16 12 (by decide) rfl (fun c_9 hR => ?_) (fun c_9 hR => ?_)
    · refine g_iconst C dX3_isDigit_16 0 ic_0 17 rfl ?_
      subst hR
      exact g_zret C hr hlocks (by decide) hA rfl (by first | (dsimp only; done) | rfl) dX3_isDigit_17
    · refine g_iconst C dX3_isDigit_12 1 ic_1 13 rfl ?_
      refine g_goto C dX3_isDigit_13 17 (by decide) ?_
      subst hR
      exact g_zret C hr hlocks (by decide) hA rfl (by first | (dsimp only; done) | rfl) dX3_isDigit_17
theorem hd_X3_digitsOf : yX3_digitsOf.cls = RX3 ∧ yX3_digitsOf.cls ≠ "java/lang/invoke/MethodHandle" ∧ yX3_digitsOf.cls ≠ "java/lang/invoke/VarHandle" ∧ (parseMethodDescriptor yX3_digitsOf.desc).map (fun d => d.parameters.length) = some 1 := by decide +kernel
def f_X3_digitsOf (p0 : Int32) : Int32 :=
  if p0 = 99 then
    2
  else
    if p0 = 104 then
      1
    else
      if p0 = 106 then
        6
      else
        if p0 = 112 then
          1
        else
          if p0 = 115 then
            2
          else
            if p0 = 116 then
              2
            else
              if p0 = 117 then
                1
              else
                if p0 = 119 then
                  3
                else
                  (-1)
set_option maxRecDepth 100000 in
set_option maxHeartbeats 4000000 in
theorem k_X3_digitsOf (l : Launch) (g : gE) (p0 : Int32) : FnI l g yX3_digitsOf wA_X3_digitsOf { frames := 0, cells := 0, slots := 0, locals := 0 } [.int p0] ([]) (f_X3_digitsOf p0) ([]) := by
  generalize hR : f_X3_digitsOf p0 = R_
  refine fEntry (As := [.int p0]) (maxL := 1) (ret := (some .int)) (by decide) rfl [some (.int p0)] (Nat.le_of_ble_eq_true rfl) (lvInB.to (lvInB.sm lvInB.nil)) ?_
  intro p e s m below meth c A C hr hlocks hname hA
  have C : Cx p s m _ c g A cX3_digitsOf 1 wA_X3_digitsOf RX3 := C
  rw [f_X3_digitsOf] at hR
  refine g_iload_n C dX3_digitsOf_0 rfl 1 rfl ?_
  rcases Decidable.em (p0 = 99) with c_1_99 | c_1_99
  · have hR := (if_pos c_1_99).symm.trans hR
    refine g_tableIn C dX3_digitsOf_1 99 c_1_99 (104) 105 (by decide) ?_
    refine g_iconst C dX3_digitsOf_105 2 ic_2 106 rfl ?_
    subst hR
    exact g_iret C hr hlocks hA (by first | (dsimp only; done) | rfl) (by first | (dsimp only; done) | rfl) dX3_digitsOf_106
  · have hR := (if_neg c_1_99).symm.trans hR
    rcases Decidable.em (p0 = 104) with c_1_104 | c_1_104
    · have hR := (if_pos c_1_104).symm.trans hR
      refine g_tableIn C dX3_digitsOf_1 104 c_1_104 (106) 107 (by decide) ?_
      refine g_iconst C dX3_digitsOf_107 1 ic_1 108 rfl ?_
      subst hR
      exact g_iret C hr hlocks hA (by first | (dsimp only; done) | rfl) (by first | (dsimp only; done) | rfl) dX3_digitsOf_108
    · have hR := (if_neg c_1_104).symm.trans hR
      rcases Decidable.em (p0 = 106) with c_1_106 | c_1_106
      · have hR := (if_pos c_1_106).symm.trans hR
        refine g_tableIn C dX3_digitsOf_1 106 c_1_106 (99) 100 (by decide) ?_
        refine g_bipush C dX3_digitsOf_100 6 bp_6 102 rfl ?_
        subst hR
        exact g_iret C hr hlocks hA (by first | (dsimp only; done) | rfl) (by first | (dsimp only; done) | rfl) dX3_digitsOf_102
      · have hR := (if_neg c_1_106).symm.trans hR
        rcases Decidable.em (p0 = 112) with c_1_112 | c_1_112
        · have hR := (if_pos c_1_112).symm.trans hR
          refine g_tableIn C dX3_digitsOf_1 112 c_1_112 (106) 107 (by decide) ?_
          refine g_iconst C dX3_digitsOf_107 1 ic_1 108 rfl ?_
          subst hR
          exact g_iret C hr hlocks hA (by first | (dsimp only; done) | rfl) (by first | (dsimp only; done) | rfl) dX3_digitsOf_108
        · have hR := (if_neg c_1_112).symm.trans hR
          rcases Decidable.em (p0 = 115) with c_1_115 | c_1_115
          · have hR := (if_pos c_1_115).symm.trans hR
            refine g_tableIn C dX3_digitsOf_1 115 c_1_115 (104) 105 (by decide) ?_
            refine g_iconst C dX3_digitsOf_105 2 ic_2 106 rfl ?_
            subst hR
            exact g_iret C hr hlocks hA (by first | (dsimp only; done) | rfl) (by first | (dsimp only; done) | rfl) dX3_digitsOf_106
          · have hR := (if_neg c_1_115).symm.trans hR
            rcases Decidable.em (p0 = 116) with c_1_116 | c_1_116
            · have hR := (if_pos c_1_116).symm.trans hR
              refine g_tableIn C dX3_digitsOf_1 116 c_1_116 (104) 105 (by decide) ?_
              refine g_iconst C dX3_digitsOf_105 2 ic_2 106 rfl ?_
              subst hR
              exact g_iret C hr hlocks hA (by first | (dsimp only; done) | rfl) (by first | (dsimp only; done) | rfl) dX3_digitsOf_106
            · have hR := (if_neg c_1_116).symm.trans hR
              rcases Decidable.em (p0 = 117) with c_1_117 | c_1_117
              · have hR := (if_pos c_1_117).symm.trans hR
                refine g_tableIn C dX3_digitsOf_1 117 c_1_117 (106) 107 (by decide) ?_
                refine g_iconst C dX3_digitsOf_107 1 ic_1 108 rfl ?_
                subst hR
                exact g_iret C hr hlocks hA (by first | (dsimp only; done) | rfl) (by first | (dsimp only; done) | rfl) dX3_digitsOf_108
              · have hR := (if_neg c_1_117).symm.trans hR
                rcases Decidable.em (p0 = 119) with c_1_119 | c_1_119
                · have hR := (if_pos c_1_119).symm.trans hR
                  refine g_tableIn C dX3_digitsOf_1 119 c_1_119 (102) 103 (by decide) ?_
                  refine g_iconst C dX3_digitsOf_103 3 ic_3 104 rfl ?_
                  subst hR
                  exact g_iret C hr hlocks hA (by first | (dsimp only; done) | rfl) (by first | (dsimp only; done) | rfl) dX3_digitsOf_104
                · have hR := (if_neg c_1_119).symm.trans hR
                  refine g_tableD C dX3_digitsOf_1 [99, 104, 106, 112, 115, 116, 117, 119] (ne_c c_1_99 (ne_c c_1_104 (ne_c c_1_106 (ne_c c_1_112 (ne_c c_1_115 (ne_c c_1_116 (ne_c c_1_117 (ne_c c_1_119 ne_n)))))))) (by decide +kernel) (by decide +kernel) 109 (by decide) ?_
                  refine g_iconst C dX3_digitsOf_109 (-1) ic_m1 110 rfl ?_
                  subst hR
                  exact g_iret C hr hlocks hA (by first | (dsimp only; done) | rfl) (by first | (dsimp only; done) | rfl) dX3_digitsOf_110
theorem hd_X3_nextSeed : yX3_nextSeed.cls = RX3 ∧ yX3_nextSeed.cls ≠ "java/lang/invoke/MethodHandle" ∧ yX3_nextSeed.cls ≠ "java/lang/invoke/VarHandle" ∧ (parseMethodDescriptor yX3_nextSeed.desc).map (fun d => d.parameters.length) = some 1 := by decide +kernel
def f_X3_nextSeed (p0 : Int32) : Int32 :=
  ((p0 * 1103515245) + 12345)
set_option maxRecDepth 100000 in
set_option maxHeartbeats 4000000 in
theorem k_X3_nextSeed (l : Launch) (g : gE) (p0 : Int32) : FnI l g yX3_nextSeed wA_X3_nextSeed { frames := 0, cells := 0, slots := 0, locals := 0 } [.int p0] ([]) (f_X3_nextSeed p0) ([]) := by
  generalize hR : f_X3_nextSeed p0 = R_
  refine fEntry (As := [.int p0]) (maxL := 1) (ret := (some .int)) (by decide) rfl [some (.int p0)] (Nat.le_of_ble_eq_true rfl) (lvInB.to (lvInB.sm lvInB.nil)) ?_
  intro p e s m below meth c A C hr hlocks hname hA
  have C : Cx p s m _ c g A cX3_nextSeed 1 wA_X3_nextSeed RX3 := C
  rw [f_X3_nextSeed] at hR
  refine g_iload_n C dX3_nextSeed_0 rfl 1 rfl ?_
  refine g_ldcw C dX3_nextSeed_1 (C.1.2.2.2.2 _ (List.mem_cons_of_mem _ wl_929)) 4 rfl ?_
  refine g_imul C dX3_nextSeed_4 5 rfl ?_
  refine g_sipush C dX3_nextSeed_5 12345 sp_12345 8 rfl ?_
  refine g_iadd C dX3_nextSeed_8 9 rfl ?_
  subst hR
  exact g_iret C hr hlocks hA (by first | (dsimp only; done) | rfl) (by first | (dsimp only; done) | rfl) dX3_nextSeed_9
theorem hd_X3_draw : yX3_draw.cls = RX3 ∧ yX3_draw.cls ≠ "java/lang/invoke/MethodHandle" ∧ yX3_draw.cls ≠ "java/lang/invoke/VarHandle" ∧ (parseMethodDescriptor yX3_draw.desc).map (fun d => d.parameters.length) = some 2 := by decide +kernel
def f_X3_draw (p0 : Int32) (p1 : Int32) (N_ : Nat) : Option (Int32) :=
  if p1 ≤ 0 then
    some 0
  else
    if p1 = 0 then none else
    some (((p0 &&& 2147483647) / 65536) - ((p0 &&& 2147483647) / 65536) / p1 * p1)
set_option maxRecDepth 100000 in
set_option maxHeartbeats 4000000 in
theorem k_X3_draw (l : Launch) (g : gE) (p0 : Int32) (p1 : Int32) (N_ : Nat) (R_ : Int32) (hR : f_X3_draw p0 p1 N_ = some R_) : FnI l g yX3_draw wA_X3_draw { frames := 0, cells := 0, slots := 0, locals := 0 } [.int p0, .int p1] ([]) R_ ([]) := by
  refine fEntry (As := [.int p0, .int p1]) (maxL := 2) (ret := (some .int)) (by decide) rfl [some (.int p0), some (.int p1)] (Nat.le_of_ble_eq_true rfl) (lvInB.to (lvInB.sm (lvInB.sm lvInB.nil))) ?_
  intro p e s m below meth c A C hr hlocks hname hA
  have C : Cx p s m _ c g A cX3_draw 2 wA_X3_draw RX3 := C
  rw [f_X3_draw] at hR
  refine g_iload_n C dX3_draw_0 rfl 1 rfl ?_
  refine g_if_le C dX3_draw_1 hR 18 4 (by decide) rfl (fun c_1 hR => ?_) (fun c_1 hR => ?_)
  · refine g_iconst C dX3_draw_18 0 ic_0 19 rfl ?_
    obtain rfl := Option.some.inj hR
    exact g_iret C hr hlocks hA (by first | (dsimp only; done) | rfl) (by first | (dsimp only; done) | rfl) dX3_draw_19
  · refine g_iload_n C dX3_draw_4 rfl 5 rfl ?_
    refine g_ldcw C dX3_draw_5 (C.1.2.2.2.2 _ (List.mem_cons_of_mem _ wl_933)) 8 rfl ?_
    refine g_iand C dX3_draw_8 9 rfl ?_
    refine g_ldcw C dX3_draw_9 (C.1.2.2.2.2 _ (List.mem_cons_of_mem _ wl_934)) 12 rfl ?_
    refine g_idiv C dX3_draw_12 (by decide) 13 rfl ?_
    refine g_iload_n C dX3_draw_13 rfl 14 rfl ?_
    obtain ⟨h_14, hR⟩ := opt_n hR
    refine g_irem C dX3_draw_14 h_14 15 rfl ?_
    refine g_goto C dX3_draw_15 19 (by decide) ?_
    obtain rfl := Option.some.inj hR
    exact g_iret C hr hlocks hA (by first | (dsimp only; done) | rfl) (by first | (dsimp only; done) | rfl) dX3_draw_19
theorem hd_X3_harmOf : yX3_harmOf.cls = RX3 ∧ yX3_harmOf.cls ≠ "java/lang/invoke/MethodHandle" ∧ yX3_harmOf.cls ≠ "java/lang/invoke/VarHandle" ∧ (parseMethodDescriptor yX3_harmOf.desc).map (fun d => d.parameters.length) = some 2 := by decide +kernel
def f_X3_harmOf (p0 : Int32) (p1 : Int32) : Int32 :=
  (f_X3_at_s 2 ((p0 * 5) + p1))
set_option maxRecDepth 100000 in
set_option maxHeartbeats 4000000 in
theorem k_X3_harmOf (l : Launch) (g : gE) (p0 : Int32) (p1 : Int32) : FnI l g yX3_harmOf wA_X3_harmOf { frames := 1, cells := 0, slots := 0, locals := 21 } [.int p0, .int p1] ([]) (f_X3_harmOf p0 p1) ([]) := by
  generalize hR : f_X3_harmOf p0 p1 = R_
  refine fEntry (As := [.int p0, .int p1]) (maxL := 2) (ret := (some .int)) (by decide) rfl [some (.int p0), some (.int p1)] (Nat.le_of_ble_eq_true rfl) (lvInB.to (lvInB.sm (lvInB.sm lvInB.nil))) ?_
  intro p e s m below meth c A C hr hlocks hname hA
  have C : Cx p s m _ c g A cX3_harmOf 2 wA_X3_harmOf RX3 := C
  rw [f_X3_harmOf] at hR
  refine g_static C 2 (by decide) (List.mem_cons_of_mem _ wl_573) dX3_harmOf_0 3 rfl ?_
  refine g_iload_n C dX3_harmOf_3 rfl 4 rfl ?_
  refine g_iconst C dX3_harmOf_4 5 ic_5 5 rfl ?_
  refine g_imul C dX3_harmOf_5 6 rfl ?_
  refine g_iload_n C dX3_harmOf_6 rfl 7 rfl ?_
  refine g_iadd C dX3_harmOf_7 8 rfl ?_
  refine g_callIR C (rn_S C (k_X3_at_s l g 2 ((p0 * 5) + p1) (by decide)) (va_cwS 2 C.1.2.2.2.2 (gdS wl_130 wl_128 wl_129 wl_2) rfl rfl rfl hd_X3_at.2 ⟨Nat.le_of_ble_eq_true rfl, Nat.le_of_ble_eq_true rfl⟩) [] rfl rfl rfl rfl (Nat.le_of_ble_eq_true rfl) ⟨Nat.zero_le _, Nat.zero_le _⟩ dX3_harmOf_8) 11 rfl ?_
  subst hR
  exact g_iret C hr hlocks hA (by first | (dsimp only; done) | rfl) (by first | (dsimp only; done) | rfl) dX3_harmOf_11
theorem hd_X3_firstHarmless : yX3_firstHarmless.cls = RX3 ∧ yX3_firstHarmless.cls ≠ "java/lang/invoke/MethodHandle" ∧ yX3_firstHarmless.cls ≠ "java/lang/invoke/VarHandle" ∧ (parseMethodDescriptor yX3_firstHarmless.desc).map (fun d => d.parameters.length) = some 1 := by decide +kernel
def f_X3_firstHarmless_L2 (x0 : Int32) (N_ : Nat) : Nat → Int32 → Option ((Int32) ⊕ (Int32))
  | 0, _ => none
  | n_ + 1, x1 =>
    if 2 < x1 then
      some (.inr x1)
    else
      if (f_X3_harmOf x1 x0) = 0 then
        some (.inl x1)
      else
        f_X3_firstHarmless_L2 x0 N_ n_ (x1 + 1)
set_option maxRecDepth 100000 in
set_option maxHeartbeats 4000000 in
theorem k_X3_firstHarmless_L2 (l : Launch) (g : gE) {p : Program} {e : Env} {s : State} {m : MethodId} {args : Array Value} {below : List Frame} {meth : Method} {c : Code} {Q : State → Prop} {A : Nat → Prop} {wc0 : va_W}   (C : Cx p s m args c g A cX3_firstHarmless 2 wA_X3_firstHarmless RX3) (hr : meth.sig.returnType = some .int) (hlocks : meth.locks = false) (hA : va_A wc0 s.heap.size = A) (N_ : Nat) (x0 : Int32) : ∀ (n_ : Nat) (x1 : Int32) (rv_ : (Int32) ⊕ (Int32)), f_X3_firstHarmless_L2 x0 N_ n_ x1 = some rv_ → (∀ v_, rv_ = .inr v_ → Gm p l e (headSpec wA_X3_firstHarmless ({ frames := 2, cells := 0, slots := 0, locals := 42 } : Room)).room s m args below meth c Q g A 2 0 0 ([]) [some (.int x0), some (.int v_)] [] 23) → (∀ r_, rv_ = .inl r_ → Q = MQ below (qI g wc0 r_ ([]) s.heap.size) args s 0 0 A) → Gm p l e (headSpec wA_X3_firstHarmless ({ frames := 2, cells := 0, slots := 0, locals := 42 } : Room)).room s m args below meth c Q g A 2 0 0 ([]) [some (.int x0), some (.int x1)] [] 2 := by
  intro n_
  induction n_ with
  | zero =>
    intro x1 rv_ hR
    simp [f_X3_firstHarmless_L2] at hR
  | succ n_ ih =>
    intro x1 rv_ hR hk hq
    rw [f_X3_firstHarmless_L2] at hR
    refine g_iload_n C dX3_firstHarmless_2 rfl 3 rfl ?_
    refine g_iconst C dX3_firstHarmless_3 2 ic_2 4 rfl ?_
    refine g_icmp_gt C dX3_firstHarmless_4 hR 23 7 (by decide) rfl (fun c_4 hR => ?_) (fun c_4 hR => ?_)
    · obtain rfl := Option.some.inj hR
      refine g_lv [some (.int x0), some (.int x1)] (lvLe.sm (lvLe.sm lvLe.nil)) ?_
      exact hk _ rfl
    · refine g_iload_n C dX3_firstHarmless_7 rfl 8 rfl ?_
      refine g_iload_n C dX3_firstHarmless_8 rfl 9 rfl ?_
      refine g_callIR C (rn_S C (k_X3_harmOf l g x1 x0) (va_cwS 2 C.1.2.2.2.2 (gdS wl_572 wl_570 wl_571 wl_2) rfl rfl rfl hd_X3_harmOf.2 ⟨Nat.le_of_ble_eq_true rfl, Nat.le_of_ble_eq_true rfl⟩) [] rfl rfl rfl rfl (Nat.le_of_ble_eq_true rfl) ⟨Nat.zero_le _, Nat.zero_le _⟩ dX3_firstHarmless_9) 12 rfl ?_
      refine g_if_ne C dX3_firstHarmless_12 hR 17 15 (by decide) rfl (fun c_12 hR => ?_) (fun c_12 hR => ?_)
      · refine g_iinc C dX3_firstHarmless_17 rfl 1 ic_1 [_, _] (Nat.le_of_ble_eq_true rfl) rfl rfl 20 rfl ?_
        refine g_goto C dX3_firstHarmless_20 2 (by decide) ?_
        refine g_lv [some (.int x0), some (.int (x1 + 1))] (lvLe.sm (lvLe.sm lvLe.nil)) ?_
        exact ih _ rv_ hR hk hq
      · refine g_iload_n C dX3_firstHarmless_15 rfl 16 rfl ?_
        obtain rfl := Option.some.inj hR
        rw [hq _ rfl]
        exact g_iret C hr hlocks hA (by first | (dsimp only; done) | rfl) (by first | (dsimp only; done) | rfl) dX3_firstHarmless_16
def f_X3_firstHarmless (p0 : Int32) (N_ : Nat) : Option (Int32) :=
  (f_X3_firstHarmless_L2 p0 N_ N_ 0).bind fun v1 =>
    match v1 with
    | .inl r => some r
    | .inr v2 =>
      some 3
set_option maxRecDepth 100000 in
set_option maxHeartbeats 4000000 in
theorem k_X3_firstHarmless (l : Launch) (g : gE) (p0 : Int32) (N_ : Nat) (R_ : Int32) (hR : f_X3_firstHarmless p0 N_ = some R_) : FnI l g yX3_firstHarmless wA_X3_firstHarmless { frames := 2, cells := 0, slots := 0, locals := 42 } [.int p0] ([]) R_ ([]) := by
  refine fEntry (As := [.int p0]) (maxL := 2) (ret := (some .int)) (by decide) rfl [some (.int p0), none] (Nat.le_of_ble_eq_true rfl) (lvInB.to (lvInB.sm (lvInB.nn lvInB.nil))) ?_
  intro p e s m below meth c A C hr hlocks hname hA
  have C : Cx p s m _ c g A cX3_firstHarmless 2 wA_X3_firstHarmless RX3 := C
  rw [f_X3_firstHarmless] at hR
  refine g_iconst C dX3_firstHarmless_0 0 ic_0 1 rfl ?_
  refine g_istore_n C dX3_firstHarmless_1 [_, _] (Nat.le_of_ble_eq_true rfl) rfl rfl 2 rfl ?_
  refine g_lv [some (.int p0), some (.int 0)] (lvLe.sm (lvLe.sm lvLe.nil)) ?_
  obtain ⟨v1, hv1, hR⟩ := opt_b hR
  rcases v1 with r_ | v2
  · refine k_X3_firstHarmless_L2 l g C hr hlocks hA N_ p0 N_ 0 _ hv1 (fun _ h => nomatch h) (fun r h => ?_)
    cases h
    obtain rfl := Option.some.inj hR
    rfl
  · refine k_X3_firstHarmless_L2 l g C hr hlocks hA N_ p0 N_ 0 _ hv1 (fun _ h => ?_) (fun _ h => nomatch h)
    cases h
    refine g_iconst C dX3_firstHarmless_23 3 ic_3 24 rfl ?_
    obtain rfl := Option.some.inj hR
    exact g_iret C hr hlocks hA (by first | (dsimp only; done) | rfl) (by first | (dsimp only; done) | rfl) dX3_firstHarmless_24
theorem hd_X3_inLeastTerms : yX3_inLeastTerms.cls = RX3 ∧ yX3_inLeastTerms.cls ≠ "java/lang/invoke/MethodHandle" ∧ yX3_inLeastTerms.cls ≠ "java/lang/invoke/VarHandle" ∧ (parseMethodDescriptor yX3_inLeastTerms.desc).map (fun d => d.parameters.length) = some 3 := by decide +kernel
def f_X3_inLeastTerms_L22  (N_ : Nat) : Nat → Int64 → Int64 → Int32 → Option (Int64 × Int64 × Int32)
  | 0, _, _, _ => none
  | n_ + 1, x5, x7, x9 =>
    if 200 ≤ x9 then
      some (x5, x7, x9)
    else
      if (lg_cmp x7 0) = 0 then
        some (x5, x7, x9)
      else
        if x7 = 0 then none else
        f_X3_inLeastTerms_L22 N_ n_ x7 (x5 - x5 / x7 * x7) (x9 + 1)
set_option maxRecDepth 100000 in
set_option maxHeartbeats 4000000 in
theorem k_X3_inLeastTerms_L22 (l : Launch) (g : gE) {p : Program} {e : Env} {s : State} {m : MethodId} {args : Array Value} {below : List Frame} {meth : Method} {c : Code} {Q : State → Prop} {A : Nat → Prop}   (C : Cx p s m args c g A cX3_inLeastTerms 12 wA_X3_inLeastTerms RX3) (N_ : Nat) (x0 : Int64) (x2 : Int64) (x4 : Int32) : ∀ (n_ : Nat) (x5 : Int64) (x7 : Int64) (x9 : Int32) (rv_ : Int64 × Int64 × Int32), f_X3_inLeastTerms_L22 N_ n_ x5 x7 x9 = some rv_ → (Gm p l e (headSpec wA_X3_inLeastTerms ({ frames := 1, cells := 0, slots := 0, locals := 15 } : Room)).room s m args below meth c Q g A 12 0 0 ([]) [some (.long x0), none, some (.long x2), none, some (.int x4), some (.long rv_.1), none, some (.long rv_.2.1), none, some (.int rv_.2.2), none, none] [] 58) → Gm p l e (headSpec wA_X3_inLeastTerms ({ frames := 1, cells := 0, slots := 0, locals := 15 } : Room)).room s m args below meth c Q g A 12 0 0 ([]) [some (.long x0), none, some (.long x2), none, some (.int x4), some (.long x5), none, some (.long x7), none, some (.int x9), none, none] [] 22 := by
  intro n_
  induction n_ with
  | zero =>
    intro x5 x7 x9 rv_ hR
    simp [f_X3_inLeastTerms_L22] at hR
  | succ n_ ih =>
    intro x5 x7 x9 rv_ hR hk
    rw [f_X3_inLeastTerms_L22] at hR
    refine g_iload C dX3_inLeastTerms_22 rfl 24 rfl ?_
    refine g_sipush C dX3_inLeastTerms_24 200 sp_200 27 rfl ?_
    refine g_icmp_ge C dX3_inLeastTerms_27 hR 58 30 (by decide) rfl (fun c_27 hR => ?_) (fun c_27 hR => ?_)
    · obtain rfl := Option.some.inj hR
      refine g_lv [some (.long x0), none, some (.long x2), none, some (.int x4), some (.long x5), none, some (.long x7), none, some (.int x9), none, none] (lvLe.sm (lvLe.nn (lvLe.sm (lvLe.nn (lvLe.sm (lvLe.sm (lvLe.nn (lvLe.sm (lvLe.nn (lvLe.sm (lvLe.nn (lvLe.nn lvLe.nil)))))))))))) ?_
      exact hk
    · refine g_lload C dX3_inLeastTerms_30 rfl 32 rfl ?_
      refine g_lconst C dX3_inLeastTerms_32 0 (by decide) 33 rfl ?_
      refine g_lcmp C dX3_inLeastTerms_33 34 rfl ?_
      refine g_if_eq C dX3_inLeastTerms_34 hR 58 37 (by decide) rfl (fun c_34 hR => ?_) (fun c_34 hR => ?_)
      · obtain rfl := Option.some.inj hR
        refine g_lv [some (.long x0), none, some (.long x2), none, some (.int x4), some (.long x5), none, some (.long x7), none, some (.int x9), none, none] (lvLe.sm (lvLe.nn (lvLe.sm (lvLe.nn (lvLe.sm (lvLe.sm (lvLe.nn (lvLe.sm (lvLe.nn (lvLe.sm (lvLe.nn (lvLe.nn lvLe.nil)))))))))))) ?_
        exact hk
      · refine g_lload C dX3_inLeastTerms_37 rfl 39 rfl ?_
        refine g_lload C dX3_inLeastTerms_39 rfl 41 rfl ?_
        obtain ⟨h_41, hR⟩ := opt_n hR
        refine g_lrem C dX3_inLeastTerms_41 h_41 42 rfl ?_
        refine g_lstore C dX3_inLeastTerms_42 [_, _, _, _, _, _, _, _, _, _, _, _] (Nat.le_of_ble_eq_true rfl) rfl rfl 44 rfl ?_
        refine g_lload C dX3_inLeastTerms_44 rfl 46 rfl ?_
        refine g_lstore C dX3_inLeastTerms_46 [_, _, _, _, _, _, _, _, _, _, _, _] (Nat.le_of_ble_eq_true rfl) rfl rfl 48 rfl ?_
        refine g_lload C dX3_inLeastTerms_48 rfl 50 rfl ?_
        refine g_lstore C dX3_inLeastTerms_50 [_, _, _, _, _, _, _, _, _, _, _, _] (Nat.le_of_ble_eq_true rfl) rfl rfl 52 rfl ?_
        refine g_iinc C dX3_inLeastTerms_52 rfl 1 ic_1 [_, _, _, _, _, _, _, _, _, _, _, _] (Nat.le_of_ble_eq_true rfl) rfl rfl 55 rfl ?_
        refine g_goto C dX3_inLeastTerms_55 22 (by decide) ?_
        refine g_lv [some (.long x0), none, some (.long x2), none, some (.int x4), some (.long x7), none, some (.long (x5 - x5 / x7 * x7)), none, some (.int (x9 + 1)), none, none] (lvLe.sm (lvLe.nn (lvLe.sm (lvLe.nn (lvLe.sm (lvLe.sm (lvLe.nn (lvLe.sm (lvLe.nn (lvLe.sm (lvLe.nn (lvLe.nn lvLe.nil)))))))))))) ?_
        exact ih _ _ _ rv_ hR hk
def f_X3_inLeastTerms (p0 : Int64) (p1 : Int64) (p2 : Int32) (N_ : Nat) : Option (Int64) :=
  if (lg_cmp p1 0) = 0 then
    some (Int32.toInt64 p2)
  else
    (f_X3_inLeastTerms_L22 N_ N_ (if 0 < p0 then p0 else -p0) p1 0).bind fun v1 =>
    if p2 = 0 then
      if (lg_cmp v1.1 0) = 0 then
        some p0
      else
        if v1.1 = 0 then none else
        some (p0 / v1.1)
    else
      if (lg_cmp v1.1 0) = 0 then
        some p1
      else
        if v1.1 = 0 then none else
        some (p1 / v1.1)
set_option maxRecDepth 100000 in
set_option maxHeartbeats 4000000 in
theorem k_X3_inLeastTerms (l : Launch) (g : gE) (p0 : Int64) (p1 : Int64) (p2 : Int32) (N_ : Nat) (R_ : Int64) (hR : f_X3_inLeastTerms p0 p1 p2 N_ = some R_) : FnL l g yX3_inLeastTerms wA_X3_inLeastTerms { frames := 1, cells := 0, slots := 0, locals := 15 } [.long p0, .long p1, .int p2] ([]) R_ ([]) := by
  refine fEntry (As := [.long p0, .long p1, .int p2]) (maxL := 12) (ret := (some .long)) (by decide) rfl [some (.long p0), none, some (.long p1), none, some (.int p2), none, none, none, none, none, none, none] (Nat.le_of_ble_eq_true rfl) (lvInB.to (lvInB.sm (lvInB.nn (lvInB.sm (lvInB.nn (lvInB.sm (lvInB.nn (lvInB.nn (lvInB.nn (lvInB.nn (lvInB.nn (lvInB.nn (lvInB.nn lvInB.nil))))))))))))) ?_
  intro p e s m below meth c A C hr hlocks hname hA
  have C : Cx p s m _ c g A cX3_inLeastTerms 12 wA_X3_inLeastTerms RX3 := C
  rw [f_X3_inLeastTerms] at hR
  refine g_lload_n C dX3_inLeastTerms_0 rfl 1 rfl ?_
  refine g_lconst C dX3_inLeastTerms_1 0 (by decide) 2 rfl ?_
  refine g_lcmp C dX3_inLeastTerms_2 3 rfl ?_
  refine g_if_ne C dX3_inLeastTerms_3 hR 10 6 (by decide) rfl (fun c_3 hR => ?_) (fun c_3 hR => ?_)
  · refine g_lload_n C dX3_inLeastTerms_10 rfl 11 rfl ?_
    refine g_absL C (List.mem_cons_of_mem _ wl_482) (List.mem_cons_of_mem _ wl_483) (List.mem_cons_of_mem _ wl_118) (List.mem_cons_of_mem _ wl_484) (Nat.le_of_ble_eq_true rfl) (Nat.le_of_ble_eq_true rfl) ⟨Nat.zero_le _, Nat.zero_le _⟩ dX3_inLeastTerms_11 14 rfl ?_
    refine g_lstore C dX3_inLeastTerms_14 [_, _, _, _, _, _, _, _, _, _, _, _] (Nat.le_of_ble_eq_true rfl) rfl rfl 16 rfl ?_
    refine g_lload_n C dX3_inLeastTerms_16 rfl 17 rfl ?_
    refine g_lstore C dX3_inLeastTerms_17 [_, _, _, _, _, _, _, _, _, _, _, _] (Nat.le_of_ble_eq_true rfl) rfl rfl 19 rfl ?_
    refine g_iconst C dX3_inLeastTerms_19 0 ic_0 20 rfl ?_
    refine g_istore C dX3_inLeastTerms_20 [_, _, _, _, _, _, _, _, _, _, _, _] (Nat.le_of_ble_eq_true rfl) rfl rfl 22 rfl ?_
    refine g_lv [some (.long p0), none, some (.long p1), none, some (.int p2), some (.long (if 0 < p0 then p0 else -p0)), none, some (.long p1), none, some (.int 0), none, none] (lvLe.sm (lvLe.nn (lvLe.sm (lvLe.nn (lvLe.sm (lvLe.sm (lvLe.nn (lvLe.sm (lvLe.nn (lvLe.sm (lvLe.nn (lvLe.nn lvLe.nil)))))))))))) ?_
    obtain ⟨v1, hv1, hR⟩ := opt_b hR
    refine k_X3_inLeastTerms_L22 l g C N_ p0 p1 p2 N_ (if 0 < p0 then p0 else -p0) p1 0 _ hv1 ?_
    refine g_iload C dX3_inLeastTerms_58 rfl 60 rfl ?_
    refine g_if_ne C dX3_inLeastTerms_60 hR 67 63 (by decide) rfl (fun c_60 hR => ?_) (fun c_60 hR => ?_)
    · refine g_lload_n C dX3_inLeastTerms_67 rfl 68 rfl ?_
      refine g_lstore C dX3_inLeastTerms_68 [_, _, _, _, _, _, _, _, _, _, _, _] (Nat.le_of_ble_eq_true rfl) rfl rfl 70 rfl ?_
      refine g_lload C dX3_inLeastTerms_70 rfl 72 rfl ?_
      refine g_lconst C dX3_inLeastTerms_72 0 (by decide) 73 rfl ?_
      refine g_lcmp C dX3_inLeastTerms_73 74 rfl ?_
      refine g_if_ne C dX3_inLeastTerms_74 hR 82 77 (by decide) rfl (fun c_74 hR => ?_) (fun c_74 hR => ?_)
      · refine g_lload C dX3_inLeastTerms_82 rfl 84 rfl ?_
        refine g_lload C dX3_inLeastTerms_84 rfl 86 rfl ?_
        obtain ⟨h_86, hR⟩ := opt_n hR
        refine g_ldiv C dX3_inLeastTerms_86 h_86 87 rfl ?_
        obtain rfl := Option.some.inj hR
        exact g_lret C hr hlocks hA (by first | (dsimp only; done) | rfl) (by first | (dsimp only; done) | rfl) dX3_inLeastTerms_87
      · refine g_lload C dX3_inLeastTerms_77 rfl 79 rfl ?_
        refine g_goto C dX3_inLeastTerms_79 87 (by decide) ?_
        obtain rfl := Option.some.inj hR
        exact g_lret C hr hlocks hA (by first | (dsimp only; done) | rfl) (by first | (dsimp only; done) | rfl) dX3_inLeastTerms_87
    · refine g_lload_n C dX3_inLeastTerms_63 rfl 64 rfl ?_
      refine g_goto C dX3_inLeastTerms_64 68 (by decide) ?_
      refine g_lstore C dX3_inLeastTerms_68 [_, _, _, _, _, _, _, _, _, _, _, _] (Nat.le_of_ble_eq_true rfl) rfl rfl 70 rfl ?_
      refine g_lload C dX3_inLeastTerms_70 rfl 72 rfl ?_
      refine g_lconst C dX3_inLeastTerms_72 0 (by decide) 73 rfl ?_
      refine g_lcmp C dX3_inLeastTerms_73 74 rfl ?_
      refine g_if_ne C dX3_inLeastTerms_74 hR 82 77 (by decide) rfl (fun c_74 hR => ?_) (fun c_74 hR => ?_)
      · refine g_lload C dX3_inLeastTerms_82 rfl 84 rfl ?_
        refine g_lload C dX3_inLeastTerms_84 rfl 86 rfl ?_
        obtain ⟨h_86, hR⟩ := opt_n hR
        refine g_ldiv C dX3_inLeastTerms_86 h_86 87 rfl ?_
        obtain rfl := Option.some.inj hR
        exact g_lret C hr hlocks hA (by first | (dsimp only; done) | rfl) (by first | (dsimp only; done) | rfl) dX3_inLeastTerms_87
      · refine g_lload C dX3_inLeastTerms_77 rfl 79 rfl ?_
        refine g_goto C dX3_inLeastTerms_79 87 (by decide) ?_
        obtain rfl := Option.some.inj hR
        exact g_lret C hr hlocks hA (by first | (dsimp only; done) | rfl) (by first | (dsimp only; done) | rfl) dX3_inLeastTerms_87
  · refine g_iload C dX3_inLeastTerms_6 rfl 8 rfl ?_
    refine g_i2l C dX3_inLeastTerms_8 9 rfl ?_
    obtain rfl := Option.some.inj hR
    exact g_lret C hr hlocks hA (by first | (dsimp only; done) | rfl) (by first | (dsimp only; done) | rfl) dX3_inLeastTerms_9
