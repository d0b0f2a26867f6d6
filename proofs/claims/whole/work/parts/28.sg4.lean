theorem hd_X3_keep : yX3_keep.cls = RX3 ∧ yX3_keep.cls ≠ "java/lang/invoke/MethodHandle" ∧ yX3_keep.cls ≠ "java/lang/invoke/VarHandle" ∧ (parseMethodDescriptor yX3_keep.desc).map (fun d => d.parameters.length) = some 3 := by decide +kernel
def f_X3_keep_L85 (x1 : Int32) (x2 : Int32) (x3 : Int32) (N_ : Nat) : Nat → Int32 → Int64 → Int64 → Int32 → ((Nat → Nat → Int32) × (Nat → Nat → Int64)) → Option (Int32 × Int64 × Int64 × Int32 × ((Nat → Nat → Int32) × (Nat → Nat → Int64)))
  | 0, _, _, _, _, _ => none
  | n_ + 1, x5, x6, x8, x10, S =>
    if x2 < x10 then
      some (x5, x6, x8, x10, S)
    else
      (f_X2_weigh (S.2 1) (S.1 35 0) (S.1 35 3) N_).bind fun v10 =>
      (f_X2_sumOfAll v10 N_).bind fun v11 =>
      (f_X1_bestSum (S.1 0 3) v10 x1 N_).bind fun v12 =>
      (some ((((Int32.toInt64 (S.1 34 2)) * v12) - (((Int32.toInt64 x3) * (Int32.toInt64 x10)) * v11)) : Int64)).bind fun v13 =>
      if x10 = 0 then
        f_X3_keep_L85 x1 x2 x3 N_ n_ x10 v13 v11 (x10 + 1) ((kS S.1 35 (upd (S.1 35) 3 (f_X0_gain (S.1 35 3) (24 * (f_X0_coldPoints (S.1 35 0)))))), (kLS S.2 1 v10))
      else
        if (lg_cmp (v13 * x8) (x6 * v11)) ≤ 0 then
          f_X3_keep_L85 x1 x2 x3 N_ n_ x5 x6 x8 (x10 + 1) ((kS S.1 35 (upd (S.1 35) 3 (f_X0_gain (S.1 35 3) (24 * (f_X0_coldPoints (S.1 35 0)))))), (kLS S.2 1 v10))
        else
          f_X3_keep_L85 x1 x2 x3 N_ n_ x10 v13 v11 (x10 + 1) ((kS S.1 35 (upd (S.1 35) 3 (f_X0_gain (S.1 35 3) (24 * (f_X0_coldPoints (S.1 35 0)))))), (kLS S.2 1 v10))
set_option maxRecDepth 100000 in
set_option maxHeartbeats 4000000 in
theorem k_X3_keep_L85 (l : Launch) (g : gE) {p : Program} {e : Env} {s : State} {m : MethodId} {args : Array Value} {below : List Frame} {meth : Method} {c : Code} {Q : State → Prop} {A : Nat → Prop} {b : Nat → Nat}  (C : Cx p s m args c g A cX3_keep 15 wA_X3_keep RX3) (N_ : Nat) (x1 : Int32) (x2 : Int32) (x3 : Int32) (x4 : Int32) (y : Nat → Nat → Nat) : ∀ (n_ : Nat) (x5 : Int32) (x6 : Int64) (x8 : Int64) (x10 : Int32) (S : (Nat → Nat → Int32) × (Nat → Nat → Int64)) (rv_ : Int32 × Int64 × Int64 × Int32 × ((Nat → Nat → Int32) × (Nat → Nat → Int64))), f_X3_keep_L85 x1 x2 x3 N_ n_ x5 x6 x8 x10 S = some rv_ → (Gm p l e (headSpec wA_X3_keep ({ frames := 5, cells := 0, slots := 0, locals := 107 } : Room)).room s m args below meth c Q g A 15 0 0 (wC g b y rv_.2.2.2.2) [some (.ref (b 0)), some (.int x1), some (.int x2), some (.int x3), some (.int x4), some (.int rv_.1), some (.long rv_.2.1), none, some (.long rv_.2.2.1), none, some (.int rv_.2.2.2.1), none, none, none, none] [] 198) → Gm p l e (headSpec wA_X3_keep ({ frames := 5, cells := 0, slots := 0, locals := 107 } : Room)).room s m args below meth c Q g A 15 0 0 (wC g b y S) [some (.ref (b 0)), some (.int x1), some (.int x2), some (.int x3), some (.int x4), some (.int x5), some (.long x6), none, some (.long x8), none, some (.int x10), none, none, none, none] [] 85 := by
  intro n_
  induction n_ with
  | zero =>
    intro x5 x6 x8 x10 S rv_ hR
    simp [f_X3_keep_L85] at hR
  | succ n_ ih =>
    intro x5 x6 x8 x10 S rv_ hR hk
    rw [f_X3_keep_L85] at hR
    refine g_iload C dX3_keep_85 rfl 87 rfl ?_
    refine g_iload_n C dX3_keep_87 rfl 88 rfl ?_
    refine g_icmp_gt C dX3_keep_88 hR 198 91 (by decide) rfl (fun c_88 hR => ?_) (fun c_88 hR => ?_)
    · obtain rfl := Option.some.inj hR
      refine g_lv [some (.ref (b 0)), some (.int x1), some (.int x2), some (.int x3), some (.int x4), some (.int x5), some (.long x6), none, some (.long x8), none, some (.int x10), none, none, none, none] (lvLe.sm (lvLe.sm (lvLe.sm (lvLe.sm (lvLe.sm (lvLe.sm (lvLe.sm (lvLe.nn (lvLe.sm (lvLe.nn (lvLe.sm (lvLe.nn (lvLe.nn (lvLe.nn (lvLe.nn lvLe.nil))))))))))))))) ?_
      exact hk
    · refine g_aload_n C dX3_keep_91 rfl 92 rfl ?_
      refine g_get (v := .ref (b 25)) C (hiC hiA_3) 0 rfl rfl 12 (by decide) (List.mem_cons_of_mem _ wl_34) rfl rfl dX3_keep_92 95 rfl ?_
      refine g_aload_n C dX3_keep_95 rfl 96 rfl ?_
      refine g_get (v := .ref (b 23)) C (hiC hiA_3) 0 rfl rfl 10 (by decide) (List.mem_cons_of_mem _ wl_29) rfl rfl dX3_keep_96 99 rfl ?_
      obtain ⟨v10, hv10, hR⟩ := opt_b hR
      refine g_callV C (rn_VN C (k_X2_weigh l g (b 25) (b 28) (b 23) (S.2 1) (S.1 35 0) (S.1 35 1) (S.1 35 2) (S.1 35 3) N_ v10 hv10) ⟨va_cnB 1 C.1.2.2.2.2 (gdA wl_406) rfl rfl rfl (nst C (List.mem_of_getElem? (i := 22) rfl)) (C.1.2.2.2.2 _ (List.mem_cons_of_mem _ wl_32)) hd_X2_weigh.2 ⟨Nat.le_of_ble_eq_true rfl, Nat.le_of_ble_eq_true rfl⟩, C.1.2.2.2.2 _ (List.mem_cons_of_mem _ wl_404), C.1.2.2.2.2 _ (List.mem_cons_of_mem _ wl_405)⟩ 40 rfl rfl [40, 43, 38] rfl rfl rfl rfl (Nat.le_of_ble_eq_true rfl) ⟨Nat.zero_le _, Nat.zero_le _⟩ dX3_keep_99) (wC g b y (S.1, (kLS S.2 1 v10))) rfl rfl 102 rfl ?_
      refine g_aload_n C dX3_keep_102 rfl 103 rfl ?_
      refine g_get (v := .ref (b 25)) C (hiC hiA_3) 0 rfl rfl 12 (by decide) (List.mem_cons_of_mem _ wl_34) rfl rfl dX3_keep_103 106 rfl ?_
      obtain ⟨v11, hv11, hR⟩ := opt_b hR
      refine g_callLR C (rn_VN C (k_X2_sumOfAll l g (b 25) (b 28) v10 N_ v11 hv11) ⟨va_cnB 0 C.1.2.2.2.2 (gdA wl_478) rfl rfl rfl (nst C (List.mem_of_getElem? (i := 18) rfl)) (C.1.2.2.2.2 _ (List.mem_cons_of_mem _ wl_32)) hd_X2_sumOfAll.2 ⟨Nat.le_of_ble_eq_true rfl, Nat.le_of_ble_eq_true rfl⟩, C.1.2.2.2.2 _ (List.mem_cons_of_mem _ wl_476), C.1.2.2.2.2 _ (List.mem_cons_of_mem _ wl_477)⟩ 40 rfl rfl [40, 43] rfl rfl rfl rfl (Nat.le_of_ble_eq_true rfl) ⟨Nat.zero_le _, Nat.zero_le _⟩ dX3_keep_106) 109 rfl ?_
      refine g_lstore C dX3_keep_109 [_, _, _, _, _, _, _, _, _, _, _, _, _, _, _] (Nat.le_of_ble_eq_true rfl) rfl rfl 111 rfl ?_
      refine g_aload_n C dX3_keep_111 rfl 112 rfl ?_
      refine g_get (v := .ref (b 22)) C (hiC hiA_3) 0 rfl rfl 9 (by decide) (List.mem_cons_of_mem _ wl_28) rfl rfl dX3_keep_112 115 rfl ?_
      refine g_getN (v := .int (S.1 34 2)) C (hiC hiA_0) 37 rfl rfl 2 (by decide) (List.mem_of_getElem? (i := 3) rfl) rfl rfl dX3_keep_115 118 rfl ?_
      refine g_i2l C dX3_keep_118 119 rfl ?_
      refine g_aload_n C dX3_keep_119 rfl 120 rfl ?_
      refine g_get (v := .ref (b 1)) C (hiC hiA_3) 0 rfl rfl 0 (by decide) (List.mem_cons_of_mem _ wl_15) rfl rfl dX3_keep_120 123 rfl ?_
      refine g_iload_n C dX3_keep_123 rfl 124 rfl ?_
      refine g_aload_n C dX3_keep_124 rfl 125 rfl ?_
      refine g_get (v := .ref (b 25)) C (hiC hiA_3) 0 rfl rfl 12 (by decide) (List.mem_cons_of_mem _ wl_34) rfl rfl dX3_keep_125 128 rfl ?_
      obtain ⟨v12, hv12, hR⟩ := opt_b hR
      refine g_callLR C (rn_VN C (k_X1_bestSum l g (b 1) (b 2) (b 3) (b 4) (b 5) (b 6) (b 25) (b 28) (S.1 0 0) (S.1 0 1) (S.1 0 2) (S.1 0 3) (S.1 0 4) v10 x1 N_ v12 hv12) ⟨va_cnB 2 C.1.2.2.2.2 (gdA wl_593) rfl rfl rfl (nst C (List.mem_of_getElem? (i := 24) rfl)) (C.1.2.2.2.2 _ (List.mem_cons_of_mem _ wl_14)) hd_X1_bestSum.2 ⟨Nat.le_of_ble_eq_true rfl, Nat.le_of_ble_eq_true rfl⟩, C.1.2.2.2.2 _ (List.mem_cons_of_mem _ wl_591), C.1.2.2.2.2 _ (List.mem_cons_of_mem _ wl_592)⟩ 1 rfl rfl [1, 40, 43] rfl rfl rfl rfl (Nat.le_of_ble_eq_true rfl) ⟨Nat.zero_le _, Nat.zero_le _⟩ dX3_keep_128) 131 rfl ?_
      refine g_lmul C dX3_keep_131 132 rfl ?_
      refine g_iload_n C dX3_keep_132 rfl 133 rfl ?_
      refine g_i2l C dX3_keep_133 134 rfl ?_
      refine g_iload C dX3_keep_134 rfl 136 rfl ?_
      refine g_i2l C dX3_keep_136 137 rfl ?_
      refine g_lmul C dX3_keep_137 138 rfl ?_
      refine g_lload C dX3_keep_138 rfl 140 rfl ?_
      refine g_lmul C dX3_keep_140 141 rfl ?_
      refine g_lsub C dX3_keep_141 142 rfl ?_
      obtain ⟨v13, hv13, hR⟩ := opt_b hR
      refine g_topL (Option.some.inj hv13) ?_
      refine g_lstore C dX3_keep_142 [_, _, _, _, _, _, _, _, _, _, _, _, _, _, _] (Nat.le_of_ble_eq_true rfl) rfl rfl 144 rfl ?_
      refine g_iload C dX3_keep_144 rfl 146 rfl ?_
      refine g_if_eq C dX3_keep_146 hR 163 149 (by decide) rfl (fun c_146 hR => ?_) (fun c_146 hR => ?_)
      · refine g_lload C dX3_keep_163 rfl 165 rfl ?_
        refine g_lstore C dX3_keep_165 [_, _, _, _, _, _, _, _, _, _, _, _, _, _, _] (Nat.le_of_ble_eq_true rfl) rfl rfl 167 rfl ?_
        refine g_lload C dX3_keep_167 rfl 169 rfl ?_
        refine g_lstore C dX3_keep_169 [_, _, _, _, _, _, _, _, _, _, _, _, _, _, _] (Nat.le_of_ble_eq_true rfl) rfl rfl 171 rfl ?_
        refine g_iload C dX3_keep_171 rfl 173 rfl ?_
        refine g_istore C dX3_keep_173 [_, _, _, _, _, _, _, _, _, _, _, _, _, _, _] (Nat.le_of_ble_eq_true rfl) rfl rfl 175 rfl ?_
        refine g_aload_n C dX3_keep_175 rfl 176 rfl ?_
        refine g_get (v := .ref (b 23)) C (hiC hiA_3) 0 rfl rfl 10 (by decide) (List.mem_cons_of_mem _ wl_29) rfl rfl dX3_keep_176 179 rfl ?_
        refine g_bipush C dX3_keep_179 24 bp_24 181 rfl ?_
        refine g_aload_n C dX3_keep_181 rfl 182 rfl ?_
        refine g_get (v := .ref (b 23)) C (hiC hiA_3) 0 rfl rfl 10 (by decide) (List.mem_cons_of_mem _ wl_29) rfl rfl dX3_keep_182 185 rfl ?_
        refine g_callIR C (rn_VN C (k_X0_coldPoints l g (b 23) (S.1 35 0) (S.1 35 1) (S.1 35 2) (S.1 35 3)) ⟨va_cnB 0 C.1.2.2.2.2 (gdA wl_174) rfl rfl rfl (nst C (List.mem_of_getElem? (i := 10) rfl)) (C.1.2.2.2.2 _ (List.mem_cons_of_mem _ wl_27)) hd_X0_coldPoints.2 ⟨Nat.le_of_ble_eq_true rfl, Nat.le_of_ble_eq_true rfl⟩, C.1.2.2.2.2 _ (List.mem_cons_of_mem _ wl_172), C.1.2.2.2.2 _ (List.mem_cons_of_mem _ wl_173)⟩ 38 rfl rfl [38] rfl rfl rfl rfl (Nat.le_of_ble_eq_true rfl) ⟨Nat.zero_le _, Nat.zero_le _⟩ dX3_keep_185) 188 rfl ?_
        refine g_imul C dX3_keep_188 189 rfl ?_
        refine g_callV C (rn_VN C (k_X0_gain l g (b 23) (S.1 35 0) (S.1 35 1) (S.1 35 2) (S.1 35 3) (24 * (f_X0_coldPoints (S.1 35 0)))) ⟨va_cnB 1 C.1.2.2.2.2 (gdA wl_177) rfl rfl rfl (nst C (List.mem_of_getElem? (i := 13) rfl)) (C.1.2.2.2.2 _ (List.mem_cons_of_mem _ wl_27)) hd_X0_gain.2 ⟨Nat.le_of_ble_eq_true rfl, Nat.le_of_ble_eq_true rfl⟩, C.1.2.2.2.2 _ (List.mem_cons_of_mem _ wl_175), C.1.2.2.2.2 _ (List.mem_cons_of_mem _ wl_176)⟩ 38 rfl rfl [38] rfl rfl rfl rfl (Nat.le_of_ble_eq_true rfl) ⟨Nat.zero_le _, Nat.zero_le _⟩ dX3_keep_189) (wC g b y ((kS S.1 35 (upd (S.1 35) 3 (f_X0_gain (S.1 35 3) (24 * (f_X0_coldPoints (S.1 35 0)))))), (kLS S.2 1 v10))) rfl rfl 192 rfl ?_
        refine g_iinc C dX3_keep_192 rfl 1 ic_1 [_, _, _, _, _, _, _, _, _, _, _, _, _, _, _] (Nat.le_of_ble_eq_true rfl) rfl rfl 195 rfl ?_
        refine g_goto C dX3_keep_195 85 (by decide) ?_
        refine g_lv [some (.ref (b 0)), some (.int x1), some (.int x2), some (.int x3), some (.int x4), some (.int x10), some (.long v13), none, some (.long v11), none, some (.int (x10 + 1)), none, none, none, none] (lvLe.sm (lvLe.sm (lvLe.sm (lvLe.sm (lvLe.sm (lvLe.sm (lvLe.sm (lvLe.nn (lvLe.sm (lvLe.nn (lvLe.sm (lvLe.nn (lvLe.nn (lvLe.nn (lvLe.nn lvLe.nil))))))))))))))) ?_
        exact ih _ _ _ _ _ rv_ hR hk
      · refine g_lload C dX3_keep_149 rfl 151 rfl ?_
        refine g_lload C dX3_keep_151 rfl 153 rfl ?_
        refine g_lmul C dX3_keep_153 154 rfl ?_
        refine g_lload C dX3_keep_154 rfl 156 rfl ?_
        refine g_lload C dX3_keep_156 rfl 158 rfl ?_
        refine g_lmul C dX3_keep_158 159 rfl ?_
        refine g_lcmp C dX3_keep_159 160 rfl ?_
        refine g_if_le C dX3_keep_160 hR 175 163 (by decide) rfl (fun c_160 hR => ?_) (fun c_160 hR => ?_)
        · refine g_aload_n C dX3_keep_175 rfl 176 rfl ?_
          refine g_get (v := .ref (b 23)) C (hiC hiA_3) 0 rfl rfl 10 (by decide) (List.mem_cons_of_mem _ wl_29) rfl rfl dX3_keep_176 179 rfl ?_
          refine g_bipush C dX3_keep_179 24 bp_24 181 rfl ?_
          refine g_aload_n C dX3_keep_181 rfl 182 rfl ?_
          refine g_get (v := .ref (b 23)) C (hiC hiA_3) 0 rfl rfl 10 (by decide) (List.mem_cons_of_mem _ wl_29) rfl rfl dX3_keep_182 185 rfl ?_
          refine g_callIR C (rn_VN C (k_X0_coldPoints l g (b 23) (S.1 35 0) (S.1 35 1) (S.1 35 2) (S.1 35 3)) ⟨va_cnB 0 C.1.2.2.2.2 (gdA wl_174) rfl rfl rfl (nst C (List.mem_of_getElem? (i := 10) rfl)) (C.1.2.2.2.2 _ (List.mem_cons_of_mem _ wl_27)) hd_X0_coldPoints.2 ⟨Nat.le_of_ble_eq_true rfl, Nat.le_of_ble_eq_true rfl⟩, C.1.2.2.2.2 _ (List.mem_cons_of_mem _ wl_172), C.1.2.2.2.2 _ (List.mem_cons_of_mem _ wl_173)⟩ 38 rfl rfl [38] rfl rfl rfl rfl (Nat.le_of_ble_eq_true rfl) ⟨Nat.zero_le _, Nat.zero_le _⟩ dX3_keep_185) 188 rfl ?_
          refine g_imul C dX3_keep_188 189 rfl ?_
          refine g_callV C (rn_VN C (k_X0_gain l g (b 23) (S.1 35 0) (S.1 35 1) (S.1 35 2) (S.1 35 3) (24 * (f_X0_coldPoints (S.1 35 0)))) ⟨va_cnB 1 C.1.2.2.2.2 (gdA wl_177) rfl rfl rfl (nst C (List.mem_of_getElem? (i := 13) rfl)) (C.1.2.2.2.2 _ (List.mem_cons_of_mem _ wl_27)) hd_X0_gain.2 ⟨Nat.le_of_ble_eq_true rfl, Nat.le_of_ble_eq_true rfl⟩, C.1.2.2.2.2 _ (List.mem_cons_of_mem _ wl_175), C.1.2.2.2.2 _ (List.mem_cons_of_mem _ wl_176)⟩ 38 rfl rfl [38] rfl rfl rfl rfl (Nat.le_of_ble_eq_true rfl) ⟨Nat.zero_le _, Nat.zero_le _⟩ dX3_keep_189) (wC g b y ((kS S.1 35 (upd (S.1 35) 3 (f_X0_gain (S.1 35 3) (24 * (f_X0_coldPoints (S.1 35 0)))))), (kLS S.2 1 v10))) rfl rfl 192 rfl ?_
          refine g_iinc C dX3_keep_192 rfl 1 ic_1 [_, _, _, _, _, _, _, _, _, _, _, _, _, _, _] (Nat.le_of_ble_eq_true rfl) rfl rfl 195 rfl ?_
          refine g_goto C dX3_keep_195 85 (by decide) ?_
          refine g_lv [some (.ref (b 0)), some (.int x1), some (.int x2), some (.int x3), some (.int x4), some (.int x5), some (.long x6), none, some (.long x8), none, some (.int (x10 + 1)), none, none, none, none] (lvLe.sm (lvLe.sm (lvLe.sm (lvLe.sm (lvLe.sm (lvLe.sm (lvLe.sm (lvLe.nn (lvLe.sm (lvLe.nn (lvLe.sm (lvLe.nn (lvLe.nn (lvLe.nn (lvLe.nn lvLe.nil))))))))))))))) ?_
          exact ih _ _ _ _ _ rv_ hR hk
        · refine g_lload C dX3_keep_163 rfl 165 rfl ?_
          refine g_lstore C dX3_keep_165 [_, _, _, _, _, _, _, _, _, _, _, _, _, _, _] (Nat.le_of_ble_eq_true rfl) rfl rfl 167 rfl ?_
          refine g_lload C dX3_keep_167 rfl 169 rfl ?_
          refine g_lstore C dX3_keep_169 [_, _, _, _, _, _, _, _, _, _, _, _, _, _, _] (Nat.le_of_ble_eq_true rfl) rfl rfl 171 rfl ?_
          refine g_iload C dX3_keep_171 rfl 173 rfl ?_
          refine g_istore C dX3_keep_173 [_, _, _, _, _, _, _, _, _, _, _, _, _, _, _] (Nat.le_of_ble_eq_true rfl) rfl rfl 175 rfl ?_
          refine g_aload_n C dX3_keep_175 rfl 176 rfl ?_
          refine g_get (v := .ref (b 23)) C (hiC hiA_3) 0 rfl rfl 10 (by decide) (List.mem_cons_of_mem _ wl_29) rfl rfl dX3_keep_176 179 rfl ?_
          refine g_bipush C dX3_keep_179 24 bp_24 181 rfl ?_
          refine g_aload_n C dX3_keep_181 rfl 182 rfl ?_
          refine g_get (v := .ref (b 23)) C (hiC hiA_3) 0 rfl rfl 10 (by decide) (List.mem_cons_of_mem _ wl_29) rfl rfl dX3_keep_182 185 rfl ?_
          refine g_callIR C (rn_VN C (k_X0_coldPoints l g (b 23) (S.1 35 0) (S.1 35 1) (S.1 35 2) (S.1 35 3)) ⟨va_cnB 0 C.1.2.2.2.2 (gdA wl_174) rfl rfl rfl (nst C (List.mem_of_getElem? (i := 10) rfl)) (C.1.2.2.2.2 _ (List.mem_cons_of_mem _ wl_27)) hd_X0_coldPoints.2 ⟨Nat.le_of_ble_eq_true rfl, Nat.le_of_ble_eq_true rfl⟩, C.1.2.2.2.2 _ (List.mem_cons_of_mem _ wl_172), C.1.2.2.2.2 _ (List.mem_cons_of_mem _ wl_173)⟩ 38 rfl rfl [38] rfl rfl rfl rfl (Nat.le_of_ble_eq_true rfl) ⟨Nat.zero_le _, Nat.zero_le _⟩ dX3_keep_185) 188 rfl ?_
          refine g_imul C dX3_keep_188 189 rfl ?_
          refine g_callV C (rn_VN C (k_X0_gain l g (b 23) (S.1 35 0) (S.1 35 1) (S.1 35 2) (S.1 35 3) (24 * (f_X0_coldPoints (S.1 35 0)))) ⟨va_cnB 1 C.1.2.2.2.2 (gdA wl_177) rfl rfl rfl (nst C (List.mem_of_getElem? (i := 13) rfl)) (C.1.2.2.2.2 _ (List.mem_cons_of_mem _ wl_27)) hd_X0_gain.2 ⟨Nat.le_of_ble_eq_true rfl, Nat.le_of_ble_eq_true rfl⟩, C.1.2.2.2.2 _ (List.mem_cons_of_mem _ wl_175), C.1.2.2.2.2 _ (List.mem_cons_of_mem _ wl_176)⟩ 38 rfl rfl [38] rfl rfl rfl rfl (Nat.le_of_ble_eq_true rfl) ⟨Nat.zero_le _, Nat.zero_le _⟩ dX3_keep_189) (wC g b y ((kS S.1 35 (upd (S.1 35) 3 (f_X0_gain (S.1 35 3) (24 * (f_X0_coldPoints (S.1 35 0)))))), (kLS S.2 1 v10))) rfl rfl 192 rfl ?_
          refine g_iinc C dX3_keep_192 rfl 1 ic_1 [_, _, _, _, _, _, _, _, _, _, _, _, _, _, _] (Nat.le_of_ble_eq_true rfl) rfl rfl 195 rfl ?_
          refine g_goto C dX3_keep_195 85 (by decide) ?_
          refine g_lv [some (.ref (b 0)), some (.int x1), some (.int x2), some (.int x3), some (.int x4), some (.int x10), some (.long v13), none, some (.long v11), none, some (.int (x10 + 1)), none, none, none, none] (lvLe.sm (lvLe.sm (lvLe.sm (lvLe.sm (lvLe.sm (lvLe.sm (lvLe.sm (lvLe.nn (lvLe.sm (lvLe.nn (lvLe.sm (lvLe.nn (lvLe.nn (lvLe.nn (lvLe.nn lvLe.nil))))))))))))))) ?_
          exact ih _ _ _ _ _ rv_ hR hk
def f_X3_keep (S : (Nat → Nat → Int32) × (Nat → Nat → Int64)) (p0 : Int32) (p1 : Int32) (p2 : Int32) (N_ : Nat) : Option (Int32 × ((Nat → Nat → Int32) × (Nat → Nat → Int64))) :=
  if (f_X3_refusalInHand S (f_X3_isOneOf p0 3) true) = 0 then
    if p1 < 0 then
      some ((f_X3_refuse S (-4)).1, (f_X3_refuse S (-4)).2)
    else
      if 0 ≤ p2 then
        if 7 < p1 then
          some ((f_X3_refuse S (-6)).1, (f_X3_refuse S (-6)).2)
        else
          if p2 ≤ 9 then
            (f_X3_think S N_).bind fun v1 =>
            (f_X3_keep_L85 p0 p1 p2 N_ N_ 0 0 1 0 ((kS v1.1 35 (upd (upd (upd (upd (v1.1 35) 0 ((f_X0_fillFrom (v1.1 34 0) (v1.1 34 1) (v1.1 34 2) (v1.1 34 3)).1)) 1 ((f_X0_fillFrom (v1.1 34 0) (v1.1 34 1) (v1.1 34 2) (v1.1 34 3)).2.1)) 2 ((f_X0_fillFrom (v1.1 34 0) (v1.1 34 1) (v1.1 34 2) (v1.1 34 3)).2.2.1)) 3 ((f_X0_fillFrom (v1.1 34 0) (v1.1 34 1) (v1.1 34 2) (v1.1 34 3)).2.2.2))), v1.2)).bind fun v14 =>
            some (v14.1, v14.2.2.2.2)
          else
            some ((f_X3_refuse S (-6)).1, (f_X3_refuse S (-6)).2)
      else
        some ((f_X3_refuse S (-4)).1, (f_X3_refuse S (-4)).2)
  else
    some ((f_X3_refuse S (f_X3_refusalInHand S (f_X3_isOneOf p0 3) true)).1, (f_X3_refuse S (f_X3_refusalInHand S (f_X3_isOneOf p0 3) true)).2)
set_option maxRecDepth 100000 in
set_option maxHeartbeats 4000000 in
theorem k_X3_keep (l : Launch) (g : gE) (b : Nat → Nat) (y : Nat → Nat → Nat) (S : (Nat → Nat → Int32) × (Nat → Nat → Int64)) (p0 : Int32) (p1 : Int32) (p2 : Int32) (N_ : Nat) (R_ : Int32 × ((Nat → Nat → Int32) × (Nat → Nat → Int64))) (hR : f_X3_keep S p0 p1 p2 N_ = some R_) : FnI l g yX3_keep wA_X3_keep { frames := 5, cells := 0, slots := 0, locals := 107 } [.ref (b 0), .int p0, .int p1, .int p2] (wC g b y S) R_.1 (wC g b y R_.2) := by
  refine fEntry (As := [.ref (b 0), .int p0, .int p1, .int p2]) (maxL := 15) (ret := (some .int)) (by decide) rfl [some (.ref (b 0)), some (.int p0), some (.int p1), some (.int p2), none, none, none, none, none, none, none, none, none, none, none] (Nat.le_of_ble_eq_true rfl) (lvInB.to (lvInB.sm (lvInB.sm (lvInB.sm (lvInB.sm (lvInB.nn (lvInB.nn (lvInB.nn (lvInB.nn (lvInB.nn (lvInB.nn (lvInB.nn (lvInB.nn (lvInB.nn (lvInB.nn (lvInB.nn lvInB.nil)))))))))))))))) ?_
  intro p e s m below meth c A C hr hlocks hname hA
  have C : Cx p s m _ c g A cX3_keep 15 wA_X3_keep RX3 := C
  rw [f_X3_keep] at hR
  refine g_aload_n C dX3_keep_0 rfl 1 rfl ?_
  refine g_iload_n C dX3_keep_1 rfl 2 rfl ?_
  refine g_iconst C dX3_keep_2 3 ic_3 3 rfl ?_
  refine g_callIR C (rn_S C (k_X3_isOneOf l g p0 3) (va_cwS 2 C.1.2.2.2.2 (gdS wl_95 wl_93 wl_94 wl_2) rfl rfl rfl hd_X3_isOneOf.2 ⟨Nat.le_of_ble_eq_true rfl, Nat.le_of_ble_eq_true rfl⟩) [] rfl rfl rfl rfl (Nat.le_of_ble_eq_true rfl) ⟨Nat.zero_le _, Nat.zero_le _⟩ dX3_keep_3) 6 rfl ?_
  refine g_iconst C dX3_keep_6 1 ic_1 7 rfl ?_
  refine g_callIR C (rn_V C (k_X3_refusalInHand l g b y S (f_X3_isOneOf p0 3) true) (cwV 2 C.1.2.2.2.2 (gdV wl_353 wl_350 wl_351 wl_352 wl_2) rfl rfl rfl hd_X3_refusalInHand ⟨Nat.le_of_ble_eq_true rfl, Nat.le_of_ble_eq_true rfl⟩) 0 rfl rfl _ rg_C rg_n rfl rfl (Nat.le_of_ble_eq_true rfl) ⟨Nat.zero_le _, Nat.zero_le _⟩ dX3_keep_7) 10 rfl ?_
  refine g_istore C dX3_keep_10 [_, _, _, _, _, _, _, _, _, _, _, _, _, _, _] (Nat.le_of_ble_eq_true rfl) rfl rfl 12 rfl ?_
  refine g_iload C dX3_keep_12 rfl 14 rfl ?_
  refine g_if_eq C dX3_keep_14 hR 24 17 (by decide) rfl (fun c_14 hR => ?_) (fun c_14 hR => ?_)
  · refine g_iload_n C dX3_keep_24 rfl 25 rfl ?_
    refine g_if_lt C dX3_keep_25 hR 32 28 (by decide) rfl (fun c_25 hR => ?_) (fun c_25 hR => ?_)
    · refine g_aload_n C dX3_keep_32 rfl 33 rfl ?_
      refine g_bipush C dX3_keep_33 (-4) bp_m4 35 rfl ?_
      refine g_callI C (rn_V C (k_X3_refuse l g b y S (-4)) (cwV 1 C.1.2.2.2.2 (gdV wl_99 wl_96 wl_97 wl_98 wl_2) rfl rfl rfl hd_X3_refuse ⟨Nat.le_of_ble_eq_true rfl, Nat.le_of_ble_eq_true rfl⟩) 0 rfl rfl _ rg_C rg_n rfl rfl (Nat.le_of_ble_eq_true rfl) ⟨Nat.zero_le _, Nat.zero_le _⟩ dX3_keep_35) (wC g b y ((f_X3_refuse S (-4)).2)) (rg_put (wC_len.trans wC_len.symm)) (rg_len (wC_len.trans wC_len.symm)) 38 rfl ?_
      obtain rfl := Option.some.inj hR
      exact g_iret C hr hlocks hA (by first | (dsimp only; done) | rfl) (by first | (dsimp only; done) | rfl) dX3_keep_38
    · refine g_iload_n C dX3_keep_28 rfl 29 rfl ?_
      refine g_if_ge C dX3_keep_29 hR 39 32 (by decide) rfl (fun c_29 hR => ?_) (fun c_29 hR => ?_)
      · refine g_iload_n C dX3_keep_39 rfl 40 rfl ?_
        refine g_bipush C dX3_keep_40 7 bp_7 42 rfl ?_
        refine g_icmp_gt C dX3_keep_42 hR 51 45 (by decide) rfl (fun c_42 hR => ?_) (fun c_42 hR => ?_)
        · refine g_aload_n C dX3_keep_51 rfl 52 rfl ?_
          refine g_bipush C dX3_keep_52 (-6) bp_m6 54 rfl ?_
          refine g_callI C (rn_V C (k_X3_refuse l g b y S (-6)) (cwV 1 C.1.2.2.2.2 (gdV wl_99 wl_96 wl_97 wl_98 wl_2) rfl rfl rfl hd_X3_refuse ⟨Nat.le_of_ble_eq_true rfl, Nat.le_of_ble_eq_true rfl⟩) 0 rfl rfl _ rg_C rg_n rfl rfl (Nat.le_of_ble_eq_true rfl) ⟨Nat.zero_le _, Nat.zero_le _⟩ dX3_keep_54) (wC g b y ((f_X3_refuse S (-6)).2)) (rg_put (wC_len.trans wC_len.symm)) (rg_len (wC_len.trans wC_len.symm)) 57 rfl ?_
          obtain rfl := Option.some.inj hR
          exact g_iret C hr hlocks hA (by first | (dsimp only; done) | rfl) (by first | (dsimp only; done) | rfl) dX3_keep_57
        · refine g_iload_n C dX3_keep_45 rfl 46 rfl ?_
          refine g_bipush C dX3_keep_46 9 bp_9 48 rfl ?_
          refine g_icmp_le C dX3_keep_48 hR 58 51 (by decide) rfl (fun c_48 hR => ?_) (fun c_48 hR => ?_)
          · refine g_aload_n C dX3_keep_58 rfl 59 rfl ?_
            obtain ⟨v1, hv1, hR⟩ := opt_b hR
            refine g_callV C (rn_V C (k_X3_think l g b y S N_ v1 hv1) (cwV 0 C.1.2.2.2.2 (gdV wl_403 wl_400 wl_401 wl_402 wl_2) rfl rfl rfl hd_X3_think ⟨Nat.le_of_ble_eq_true rfl, Nat.le_of_ble_eq_true rfl⟩) 0 rfl rfl _ rg_C rg_n rfl rfl (Nat.le_of_ble_eq_true rfl) ⟨Nat.zero_le _, Nat.zero_le _⟩ dX3_keep_59) (wC g b y v1) (rg_put (wC_len.trans wC_len.symm)) (rg_len (wC_len.trans wC_len.symm)) 62 rfl ?_
            refine g_aload_n C dX3_keep_62 rfl 63 rfl ?_
            refine g_get (v := .ref (b 23)) C (hiC hiA_3) 0 rfl rfl 10 (by decide) (List.mem_cons_of_mem _ wl_29) rfl rfl dX3_keep_63 66 rfl ?_
            refine g_aload_n C dX3_keep_66 rfl 67 rfl ?_
            refine g_get (v := .ref (b 22)) C (hiC hiA_3) 0 rfl rfl 9 (by decide) (List.mem_cons_of_mem _ wl_28) rfl rfl dX3_keep_67 70 rfl ?_
            refine g_callV C (rn_VN C (k_X0_fillFrom l g (b 23) (b 22) (v1.1 35 0) (v1.1 35 1) (v1.1 35 2) (v1.1 35 3) (v1.1 34 0) (v1.1 34 1) (v1.1 34 2) (v1.1 34 3)) ⟨va_cnB 1 C.1.2.2.2.2 (gdA wl_146) rfl rfl rfl (nst C (List.mem_of_getElem? (i := 21) rfl)) (C.1.2.2.2.2 _ (List.mem_cons_of_mem _ wl_27)) hd_X0_fillFrom.2 ⟨Nat.le_of_ble_eq_true rfl, Nat.le_of_ble_eq_true rfl⟩, C.1.2.2.2.2 _ (List.mem_cons_of_mem _ wl_144), C.1.2.2.2.2 _ (List.mem_cons_of_mem _ wl_145)⟩ 38 rfl rfl [38, 37] rfl rfl rfl rfl (Nat.le_of_ble_eq_true rfl) ⟨Nat.zero_le _, Nat.zero_le _⟩ dX3_keep_70) (wC g b y ((kS v1.1 35 (upd (upd (upd (upd (v1.1 35) 0 ((f_X0_fillFrom (v1.1 34 0) (v1.1 34 1) (v1.1 34 2) (v1.1 34 3)).1)) 1 ((f_X0_fillFrom (v1.1 34 0) (v1.1 34 1) (v1.1 34 2) (v1.1 34 3)).2.1)) 2 ((f_X0_fillFrom (v1.1 34 0) (v1.1 34 1) (v1.1 34 2) (v1.1 34 3)).2.2.1)) 3 ((f_X0_fillFrom (v1.1 34 0) (v1.1 34 1) (v1.1 34 2) (v1.1 34 3)).2.2.2))), v1.2)) rfl rfl 73 rfl ?_
            refine g_iconst C dX3_keep_73 0 ic_0 74 rfl ?_
            refine g_istore C dX3_keep_74 [_, _, _, _, _, _, _, _, _, _, _, _, _, _, _] (Nat.le_of_ble_eq_true rfl) rfl rfl 76 rfl ?_
            refine g_lconst C dX3_keep_76 0 (by decide) 77 rfl ?_
            refine g_lstore C dX3_keep_77 [_, _, _, _, _, _, _, _, _, _, _, _, _, _, _] (Nat.le_of_ble_eq_true rfl) rfl rfl 79 rfl ?_
            refine g_lconst C dX3_keep_79 1 (by decide) 80 rfl ?_
            refine g_lstore C dX3_keep_80 [_, _, _, _, _, _, _, _, _, _, _, _, _, _, _] (Nat.le_of_ble_eq_true rfl) rfl rfl 82 rfl ?_
            refine g_iconst C dX3_keep_82 0 ic_0 83 rfl ?_
            refine g_istore C dX3_keep_83 [_, _, _, _, _, _, _, _, _, _, _, _, _, _, _] (Nat.le_of_ble_eq_true rfl) rfl rfl 85 rfl ?_
            refine g_lv [some (.ref (b 0)), some (.int p0), some (.int p1), some (.int p2), some (.int (f_X3_refusalInHand S (f_X3_isOneOf p0 3) true)), some (.int 0), some (.long 0), none, some (.long 1), none, some (.int 0), none, none, none, none] (lvLe.sm (lvLe.sm (lvLe.sm (lvLe.sm (lvLe.sm (lvLe.sm (lvLe.sm (lvLe.nn (lvLe.sm (lvLe.nn (lvLe.sm (lvLe.nn (lvLe.nn (lvLe.nn (lvLe.nn lvLe.nil))))))))))))))) ?_
            obtain ⟨v14, hv14, hR⟩ := opt_b hR
            refine k_X3_keep_L85 l g C N_ p0 p1 p2 (f_X3_refusalInHand S (f_X3_isOneOf p0 3) true) y N_ 0 0 1 0 ((kS v1.1 35 (upd (upd (upd (upd (v1.1 35) 0 ((f_X0_fillFrom (v1.1 34 0) (v1.1 34 1) (v1.1 34 2) (v1.1 34 3)).1)) 1 ((f_X0_fillFrom (v1.1 34 0) (v1.1 34 1) (v1.1 34 2) (v1.1 34 3)).2.1)) 2 ((f_X0_fillFrom (v1.1 34 0) (v1.1 34 1) (v1.1 34 2) (v1.1 34 3)).2.2.1)) 3 ((f_X0_fillFrom (v1.1 34 0) (v1.1 34 1) (v1.1 34 2) (v1.1 34 3)).2.2.2))), v1.2) _ hv14 ?_
            refine g_iload C dX3_keep_198 rfl 200 rfl ?_
            obtain rfl := Option.some.inj hR
            exact g_iret C hr hlocks hA (by first | (dsimp only; done) | rfl) (by first | (dsimp only; done) | rfl) dX3_keep_200
          · refine g_aload_n C dX3_keep_51 rfl 52 rfl ?_
            refine g_bipush C dX3_keep_52 (-6) bp_m6 54 rfl ?_
            refine g_callI C (rn_V C (k_X3_refuse l g b y S (-6)) (cwV 1 C.1.2.2.2.2 (gdV wl_99 wl_96 wl_97 wl_98 wl_2) rfl rfl rfl hd_X3_refuse ⟨Nat.le_of_ble_eq_true rfl, Nat.le_of_ble_eq_true rfl⟩) 0 rfl rfl _ rg_C rg_n rfl rfl (Nat.le_of_ble_eq_true rfl) ⟨Nat.zero_le _, Nat.zero_le _⟩ dX3_keep_54) (wC g b y ((f_X3_refuse S (-6)).2)) (rg_put (wC_len.trans wC_len.symm)) (rg_len (wC_len.trans wC_len.symm)) 57 rfl ?_
            obtain rfl := Option.some.inj hR
            exact g_iret C hr hlocks hA (by first | (dsimp only; done) | rfl) (by first | (dsimp only; done) | rfl) dX3_keep_57
      · refine g_aload_n C dX3_keep_32 rfl 33 rfl ?_
        refine g_bipush C dX3_keep_33 (-4) bp_m4 35 rfl ?_
        refine g_callI C (rn_V C (k_X3_refuse l g b y S (-4)) (cwV 1 C.1.2.2.2.2 (gdV wl_99 wl_96 wl_97 wl_98 wl_2) rfl rfl rfl hd_X3_refuse ⟨Nat.le_of_ble_eq_true rfl, Nat.le_of_ble_eq_true rfl⟩) 0 rfl rfl _ rg_C rg_n rfl rfl (Nat.le_of_ble_eq_true rfl) ⟨Nat.zero_le _, Nat.zero_le _⟩ dX3_keep_35) (wC g b y ((f_X3_refuse S (-4)).2)) (rg_put (wC_len.trans wC_len.symm)) (rg_len (wC_len.trans wC_len.symm)) 38 rfl ?_
        obtain rfl := Option.some.inj hR
        exact g_iret C hr hlocks hA (by first | (dsimp only; done) | rfl) (by first | (dsimp only; done) | rfl) dX3_keep_38
  · refine g_aload_n C dX3_keep_17 rfl 18 rfl ?_
    refine g_iload C dX3_keep_18 rfl 20 rfl ?_
    refine g_callI C (rn_V C (k_X3_refuse l g b y S (f_X3_refusalInHand S (f_X3_isOneOf p0 3) true)) (cwV 1 C.1.2.2.2.2 (gdV wl_99 wl_96 wl_97 wl_98 wl_2) rfl rfl rfl hd_X3_refuse ⟨Nat.le_of_ble_eq_true rfl, Nat.le_of_ble_eq_true rfl⟩) 0 rfl rfl _ rg_C rg_n rfl rfl (Nat.le_of_ble_eq_true rfl) ⟨Nat.zero_le _, Nat.zero_le _⟩ dX3_keep_20) (wC g b y ((f_X3_refuse S (f_X3_refusalInHand S (f_X3_isOneOf p0 3) true)).2)) (rg_put (wC_len.trans wC_len.symm)) (rg_len (wC_len.trans wC_len.symm)) 23 rfl ?_
    obtain rfl := Option.some.inj hR
    exact g_iret C hr hlocks hA (by first | (dsimp only; done) | rfl) (by first | (dsimp only; done) | rfl) dX3_keep_23
theorem hd_X3_seldom : yX3_seldom.cls = RX3 ∧ yX3_seldom.cls ≠ "java/lang/invoke/MethodHandle" ∧ yX3_seldom.cls ≠ "java/lang/invoke/VarHandle" ∧ (parseMethodDescriptor yX3_seldom.desc).map (fun d => d.parameters.length) = some 2 := by decide +kernel
def f_X3_seldom_L56 (x1 : Int32) (x2 : Int32) (x4 : Int64) (S : (Nat → Nat → Int32) × (Nat → Nat → Int64)) (N_ : Nat) : Nat → Int32 → Int64 → Int32 → Option (Int32 × Int64 × Int32)
  | 0, _, _, _ => none
  | n_ + 1, x6, x7, x9 =>
    if 5 ≤ x9 then
      some (x6, x7, x9)
    else
      (f_X1_netSum (S.1 0 3) (S.2 0) x9 x1 N_).bind fun v7 =>
      (f_X3_harmSum (S.2 0) x9 N_).bind fun v8 =>
      if 0 < (lg_cmp (100 * v8) ((Int32.toInt64 x2) * x4)) then
        f_X3_seldom_L56 x1 x2 x4 S N_ n_ x6 x7 (x9 + 1)
      else
        if x6 = (-9) then
          f_X3_seldom_L56 x1 x2 x4 S N_ n_ x9 v7 (x9 + 1)
        else
          if (lg_cmp v7 x7) ≤ 0 then
            f_X3_seldom_L56 x1 x2 x4 S N_ n_ x6 x7 (x9 + 1)
          else
            f_X3_seldom_L56 x1 x2 x4 S N_ n_ x9 v7 (x9 + 1)
set_option maxRecDepth 100000 in
set_option maxHeartbeats 4000000 in
theorem k_X3_seldom_L56 (l : Launch) (g : gE) {p : Program} {e : Env} {s : State} {m : MethodId} {args : Array Value} {below : List Frame} {meth : Method} {c : Code} {Q : State → Prop} {A : Nat → Prop} {b : Nat → Nat}  (C : Cx p s m args c g A cX3_seldom 13 wA_X3_seldom RX3) (N_ : Nat) (x1 : Int32) (x2 : Int32) (x3 : Int32) (x4 : Int64) (y : Nat → Nat → Nat) (S : (Nat → Nat → Int32) × (Nat → Nat → Int64)) : ∀ (n_ : Nat) (x6 : Int32) (x7 : Int64) (x9 : Int32) (rv_ : Int32 × Int64 × Int32), f_X3_seldom_L56 x1 x2 x4 S N_ n_ x6 x7 x9 = some rv_ → (Gm p l e (headSpec wA_X3_seldom ({ frames := 5, cells := 0, slots := 0, locals := 107 } : Room)).room s m args below meth c Q g A 13 0 0 (wC g b y S) [some (.ref (b 0)), some (.int x1), some (.int x2), some (.int x3), some (.long x4), none, some (.int rv_.1), some (.long rv_.2.1), none, some (.int rv_.2.2), none, none, none] [] 141) → Gm p l e (headSpec wA_X3_seldom ({ frames := 5, cells := 0, slots := 0, locals := 107 } : Room)).room s m args below meth c Q g A 13 0 0 (wC g b y S) [some (.ref (b 0)), some (.int x1), some (.int x2), some (.int x3), some (.long x4), none, some (.int x6), some (.long x7), none, some (.int x9), none, none, none] [] 56 := by
  intro n_
  induction n_ with
  | zero =>
    intro x6 x7 x9 rv_ hR
    simp [f_X3_seldom_L56] at hR
  | succ n_ ih =>
    intro x6 x7 x9 rv_ hR hk
    rw [f_X3_seldom_L56] at hR
    refine g_iload C dX3_seldom_56 rfl 58 rfl ?_
    refine g_iconst C dX3_seldom_58 5 ic_5 59 rfl ?_
    refine g_icmp_ge C dX3_seldom_59 hR 141 62 (by decide) rfl (fun c_59 hR => ?_) (fun c_59 hR => ?_)
    · obtain rfl := Option.some.inj hR
      refine g_lv [some (.ref (b 0)), some (.int x1), some (.int x2), some (.int x3), some (.long x4), none, some (.int x6), some (.long x7), none, some (.int x9), none, none, none] (lvLe.sm (lvLe.sm (lvLe.sm (lvLe.sm (lvLe.sm (lvLe.nn (lvLe.sm (lvLe.sm (lvLe.nn (lvLe.sm (lvLe.nn (lvLe.nn (lvLe.nn lvLe.nil))))))))))))) ?_
      exact hk
    · refine g_aload_n C dX3_seldom_62 rfl 63 rfl ?_
      refine g_get (v := .ref (b 1)) C (hiC hiA_3) 0 rfl rfl 0 (by decide) (List.mem_cons_of_mem _ wl_15) rfl rfl dX3_seldom_63 66 rfl ?_
      refine g_iload C dX3_seldom_66 rfl 68 rfl ?_
      refine g_iload_n C dX3_seldom_68 rfl 69 rfl ?_
      refine g_aload_n C dX3_seldom_69 rfl 70 rfl ?_
      refine g_get (v := .ref (b 24)) C (hiC hiA_3) 0 rfl rfl 11 (by decide) (List.mem_cons_of_mem _ wl_33) rfl rfl dX3_seldom_70 73 rfl ?_
      obtain ⟨v7, hv7, hR⟩ := opt_b hR
      refine g_callLR C (rn_VN C (k_X1_netSum l g (b 1) (b 2) (b 3) (b 4) (b 5) (b 6) (b 24) (b 27) (S.1 0 0) (S.1 0 1) (S.1 0 2) (S.1 0 3) (S.1 0 4) (S.2 0) x9 x1 N_ v7 hv7) ⟨va_cnB 3 C.1.2.2.2.2 (gdA wl_513) rfl rfl rfl (nst C (List.mem_of_getElem? (i := 19) rfl)) (C.1.2.2.2.2 _ (List.mem_cons_of_mem _ wl_14)) hd_X1_netSum.2 ⟨Nat.le_of_ble_eq_true rfl, Nat.le_of_ble_eq_true rfl⟩, C.1.2.2.2.2 _ (List.mem_cons_of_mem _ wl_511), C.1.2.2.2.2 _ (List.mem_cons_of_mem _ wl_512)⟩ 1 rfl rfl [1, 39, 42] rfl rfl rfl rfl (Nat.le_of_ble_eq_true rfl) ⟨Nat.zero_le _, Nat.zero_le _⟩ dX3_seldom_73) 76 rfl ?_
      refine g_lstore C dX3_seldom_76 [_, _, _, _, _, _, _, _, _, _, _, _, _] (Nat.le_of_ble_eq_true rfl) rfl rfl 78 rfl ?_
      refine g_ldc2 C dX3_seldom_78 (C.1.2.2.2.2 _ (List.mem_cons_of_mem _ wl_656)) 81 rfl ?_
      refine g_iload C dX3_seldom_81 rfl 83 rfl ?_
      refine g_aload_n C dX3_seldom_83 rfl 84 rfl ?_
      refine g_get (v := .ref (b 24)) C (hiC hiA_3) 0 rfl rfl 11 (by decide) (List.mem_cons_of_mem _ wl_33) rfl rfl dX3_seldom_84 87 rfl ?_
      obtain ⟨v8, hv8, hR⟩ := opt_b hR
      refine g_callLR C (rn_S C (k_X3_harmSum l g (b 24) (b 27) (S.2 0) x9 N_ v8 hv8) (va_cwS 2 C.1.2.2.2.2 (gdS wl_569 wl_567 wl_568 wl_2) rfl rfl rfl hd_X3_harmSum.2 ⟨Nat.le_of_ble_eq_true rfl, Nat.le_of_ble_eq_true rfl⟩) [39, 42] rfl rfl rfl rfl (Nat.le_of_ble_eq_true rfl) ⟨Nat.zero_le _, Nat.zero_le _⟩ dX3_seldom_87) 90 rfl ?_
      refine g_lmul C dX3_seldom_90 91 rfl ?_
      refine g_iload_n C dX3_seldom_91 rfl 92 rfl ?_
      refine g_i2l C dX3_seldom_92 93 rfl ?_
      refine g_lload C dX3_seldom_93 rfl 95 rfl ?_
      refine g_lmul C dX3_seldom_95 96 rfl ?_
      refine g_lcmp C dX3_seldom_96 97 rfl ?_
      refine g_if_gt C dX3_seldom_97 hR 104 100 (by decide) rfl (fun c_97 hR => ?_) (fun c_97 hR => ?_)
      · refine g_iconst C dX3_seldom_104 0 ic_0 105 rfl ?_
        refine g_istore C dX3_seldom_105 [_, _, _, _, _, _, _, _, _, _, _, _, _] (Nat.le_of_ble_eq_true rfl) rfl rfl 107 rfl ?_
        refine g_iload C dX3_seldom_107 rfl 109 rfl ?_
        refine g_if_eqT C dX3_seldom_109 (by decide) 135 (by decide) ?_
        refine g_iinc C dX3_seldom_135 rfl 1 ic_1 [_, _, _, _, _, _, _, _, _, _, _, _, _] (Nat.le_of_ble_eq_true rfl) rfl rfl 138 rfl ?_
        refine g_goto C dX3_seldom_138 56 (by decide) ?_
        refine g_lv [some (.ref (b 0)), some (.int x1), some (.int x2), some (.int x3), some (.long x4), none, some (.int x6), some (.long x7), none, some (.int (x9 + 1)), none, none, none] (lvLe.sm (lvLe.sm (lvLe.sm (lvLe.sm (lvLe.sm (lvLe.nn (lvLe.sm (lvLe.sm (lvLe.nn (lvLe.sm (lvLe.nn (lvLe.nn (lvLe.nn lvLe.nil))))))))))))) ?_
        exact ih _ _ _ rv_ hR hk
      · refine g_iconst C dX3_seldom_100 1 ic_1 101 rfl ?_
        refine g_goto C dX3_seldom_101 105 (by decide) ?_
        refine g_istore C dX3_seldom_105 [_, _, _, _, _, _, _, _, _, _, _, _, _] (Nat.le_of_ble_eq_true rfl) rfl rfl 107 rfl ?_
        refine g_iload C dX3_seldom_107 rfl 109 rfl ?_
        refine g_if_eqF C dX3_seldom_109 (by decide) 135 112 (by decide) rfl ?_
        refine g_iload C dX3_seldom_112 rfl 114 rfl ?_
        refine g_bipush C dX3_seldom_114 (-9) bp_m9 116 rfl ?_
        refine g_icmp_eq C dX3_seldom_116 hR 127 119 (by decide) rfl (fun c_116 hR => ?_) (fun c_116 hR => ?_)
        · refine g_lload C dX3_seldom_127 rfl 129 rfl ?_
          refine g_lstore C dX3_seldom_129 [_, _, _, _, _, _, _, _, _, _, _, _, _] (Nat.le_of_ble_eq_true rfl) rfl rfl 131 rfl ?_
          refine g_iload C dX3_seldom_131 rfl 133 rfl ?_
          refine g_istore C dX3_seldom_133 [_, _, _, _, _, _, _, _, _, _, _, _, _] (Nat.le_of_ble_eq_true rfl) rfl rfl 135 rfl ?_
          refine g_iinc C dX3_seldom_135 rfl 1 ic_1 [_, _, _, _, _, _, _, _, _, _, _, _, _] (Nat.le_of_ble_eq_true rfl) rfl rfl 138 rfl ?_
          refine g_goto C dX3_seldom_138 56 (by decide) ?_
          refine g_lv [some (.ref (b 0)), some (.int x1), some (.int x2), some (.int x3), some (.long x4), none, some (.int x9), some (.long v7), none, some (.int (x9 + 1)), none, none, none] (lvLe.sm (lvLe.sm (lvLe.sm (lvLe.sm (lvLe.sm (lvLe.nn (lvLe.sm (lvLe.sm (lvLe.nn (lvLe.sm (lvLe.nn (lvLe.nn (lvLe.nn lvLe.nil))))))))))))) ?_
          exact ih _ _ _ rv_ hR hk
        · refine g_lload C dX3_seldom_119 rfl 121 rfl ?_
          refine g_lload C dX3_seldom_121 rfl 123 rfl ?_
          refine g_lcmp C dX3_seldom_123 124 rfl ?_
          refine g_if_le C dX3_seldom_124 hR 135 127 (by decide) rfl (fun c_124 hR => ?_) (fun c_124 hR => ?_)
          · refine g_iinc C dX3_seldom_135 rfl 1 ic_1 [_, _, _, _, _, _, _, _, _, _, _, _, _] (Nat.le_of_ble_eq_true rfl) rfl rfl 138 rfl ?_
            refine g_goto C dX3_seldom_138 56 (by decide) ?_
            refine g_lv [some (.ref (b 0)), some (.int x1), some (.int x2), some (.int x3), some (.long x4), none, some (.int x6), some (.long x7), none, some (.int (x9 + 1)), none, none, none] (lvLe.sm (lvLe.sm (lvLe.sm (lvLe.sm (lvLe.sm (lvLe.nn (lvLe.sm (lvLe.sm (lvLe.nn (lvLe.sm (lvLe.nn (lvLe.nn (lvLe.nn lvLe.nil))))))))))))) ?_
            exact ih _ _ _ rv_ hR hk
          · refine g_lload C dX3_seldom_127 rfl 129 rfl ?_
            refine g_lstore C dX3_seldom_129 [_, _, _, _, _, _, _, _, _, _, _, _, _] (Nat.le_of_ble_eq_true rfl) rfl rfl 131 rfl ?_
            refine g_iload C dX3_seldom_131 rfl 133 rfl ?_
            refine g_istore C dX3_seldom_133 [_, _, _, _, _, _, _, _, _, _, _, _, _] (Nat.le_of_ble_eq_true rfl) rfl rfl 135 rfl ?_
            refine g_iinc C dX3_seldom_135 rfl 1 ic_1 [_, _, _, _, _, _, _, _, _, _, _, _, _] (Nat.le_of_ble_eq_true rfl) rfl rfl 138 rfl ?_
            refine g_goto C dX3_seldom_138 56 (by decide) ?_
            refine g_lv [some (.ref (b 0)), some (.int x1), some (.int x2), some (.int x3), some (.long x4), none, some (.int x9), some (.long v7), none, some (.int (x9 + 1)), none, none, none] (lvLe.sm (lvLe.sm (lvLe.sm (lvLe.sm (lvLe.sm (lvLe.nn (lvLe.sm (lvLe.sm (lvLe.nn (lvLe.sm (lvLe.nn (lvLe.nn (lvLe.nn lvLe.nil))))))))))))) ?_
            exact ih _ _ _ rv_ hR hk
def f_X3_seldom (S : (Nat → Nat → Int32) × (Nat → Nat → Int64)) (p0 : Int32) (p1 : Int32) (N_ : Nat) : Option (Int32 × ((Nat → Nat → Int32) × (Nat → Nat → Int64))) :=
  if (f_X3_refusalInHand S (f_X3_isOneOf p0 3) true) = 0 then
    if (f_X3_refusalOutside p1 0 100) = 0 then
      (f_X3_think S N_).bind fun v1 =>
      (f_X2_sumOfAll (v1.2 0) N_).bind fun v2 =>
      (f_X3_seldom_L56 p0 p1 v2 v1 N_ N_ (-9) 0 0).bind fun v9 =>
      some (v9.1, v1)
    else
      some ((f_X3_refuse S (f_X3_refusalOutside p1 0 100)).1, (f_X3_refuse S (f_X3_refusalOutside p1 0 100)).2)
  else
    some ((f_X3_refuse S (f_X3_refusalInHand S (f_X3_isOneOf p0 3) true)).1, (f_X3_refuse S (f_X3_refusalInHand S (f_X3_isOneOf p0 3) true)).2)
set_option maxRecDepth 100000 in
set_option maxHeartbeats 4000000 in
theorem k_X3_seldom (l : Launch) (g : gE) (b : Nat → Nat) (y : Nat → Nat → Nat) (S : (Nat → Nat → Int32) × (Nat → Nat → Int64)) (p0 : Int32) (p1 : Int32) (N_ : Nat) (R_ : Int32 × ((Nat → Nat → Int32) × (Nat → Nat → Int64))) (hR : f_X3_seldom S p0 p1 N_ = some R_) : FnI l g yX3_seldom wA_X3_seldom { frames := 5, cells := 0, slots := 0, locals := 107 } [.ref (b 0), .int p0, .int p1] (wC g b y S) R_.1 (wC g b y R_.2) := by
  refine fEntry (As := [.ref (b 0), .int p0, .int p1]) (maxL := 13) (ret := (some .int)) (by decide) rfl [some (.ref (b 0)), some (.int p0), some (.int p1), none, none, none, none, none, none, none, none, none, none] (Nat.le_of_ble_eq_true rfl) (lvInB.to (lvInB.sm (lvInB.sm (lvInB.sm (lvInB.nn (lvInB.nn (lvInB.nn (lvInB.nn (lvInB.nn (lvInB.nn (lvInB.nn (lvInB.nn (lvInB.nn (lvInB.nn lvInB.nil)))))))))))))) ?_
  intro p e s m below meth c A C hr hlocks hname hA
  have C : Cx p s m _ c g A cX3_seldom 13 wA_X3_seldom RX3 := C
  rw [f_X3_seldom] at hR
  refine g_aload_n C dX3_seldom_0 rfl 1 rfl ?_
  refine g_iload_n C dX3_seldom_1 rfl 2 rfl ?_
  refine g_iconst C dX3_seldom_2 3 ic_3 3 rfl ?_
  refine g_callIR C (rn_S C (k_X3_isOneOf l g p0 3) (va_cwS 2 C.1.2.2.2.2 (gdS wl_95 wl_93 wl_94 wl_2) rfl rfl rfl hd_X3_isOneOf.2 ⟨Nat.le_of_ble_eq_true rfl, Nat.le_of_ble_eq_true rfl⟩) [] rfl rfl rfl rfl (Nat.le_of_ble_eq_true rfl) ⟨Nat.zero_le _, Nat.zero_le _⟩ dX3_seldom_3) 6 rfl ?_
  refine g_iconst C dX3_seldom_6 1 ic_1 7 rfl ?_
  refine g_callIR C (rn_V C (k_X3_refusalInHand l g b y S (f_X3_isOneOf p0 3) true) (cwV 2 C.1.2.2.2.2 (gdV wl_353 wl_350 wl_351 wl_352 wl_2) rfl rfl rfl hd_X3_refusalInHand ⟨Nat.le_of_ble_eq_true rfl, Nat.le_of_ble_eq_true rfl⟩) 0 rfl rfl _ rg_C rg_n rfl rfl (Nat.le_of_ble_eq_true rfl) ⟨Nat.zero_le _, Nat.zero_le _⟩ dX3_seldom_7) 10 rfl ?_
  refine g_istore_n C dX3_seldom_10 [_, _, _, _, _, _, _, _, _, _, _, _, _] (Nat.le_of_ble_eq_true rfl) rfl rfl 11 rfl ?_
  refine g_iload_n C dX3_seldom_11 rfl 12 rfl ?_
  refine g_if_ne C dX3_seldom_12 hR 23 15 (by decide) rfl (fun c_12 hR => ?_) (fun c_12 hR => ?_)
  · refine g_iload_n C dX3_seldom_23 rfl 24 rfl ?_
    refine g_if_eqF C dX3_seldom_24 c_12 33 27 (by decide) rfl ?_
    refine g_aload_n C dX3_seldom_27 rfl 28 rfl ?_
    refine g_iload_n C dX3_seldom_28 rfl 29 rfl ?_
    refine g_callI C (rn_V C (k_X3_refuse l g b y S (f_X3_refusalInHand S (f_X3_isOneOf p0 3) true)) (cwV 1 C.1.2.2.2.2 (gdV wl_99 wl_96 wl_97 wl_98 wl_2) rfl rfl rfl hd_X3_refuse ⟨Nat.le_of_ble_eq_true rfl, Nat.le_of_ble_eq_true rfl⟩) 0 rfl rfl _ rg_C rg_n rfl rfl (Nat.le_of_ble_eq_true rfl) ⟨Nat.zero_le _, Nat.zero_le _⟩ dX3_seldom_29) (wC g b y ((f_X3_refuse S (f_X3_refusalInHand S (f_X3_isOneOf p0 3) true)).2)) (rg_put (wC_len.trans wC_len.symm)) (rg_len (wC_len.trans wC_len.symm)) 32 rfl ?_
    obtain rfl := Option.some.inj hR
    exact g_iret C hr hlocks hA (by first | (dsimp only; done) | rfl) (by first | (dsimp only; done) | rfl) dX3_seldom_32
  · refine g_iload_n C dX3_seldom_15 rfl 16 rfl ?_
    refine g_iconst C dX3_seldom_16 0 ic_0 17 rfl ?_
    refine g_bipush C dX3_seldom_17 100 bp_100 19 rfl ?_
    refine g_callIR C (rn_S C (k_X3_refusalOutside l g p1 0 100) (va_cwS 3 C.1.2.2.2.2 (gdS wl_92 wl_90 wl_91 wl_2) rfl rfl rfl hd_X3_refusalOutside.2 ⟨Nat.le_of_ble_eq_true rfl, Nat.le_of_ble_eq_true rfl⟩) [] rfl rfl rfl rfl (Nat.le_of_ble_eq_true rfl) ⟨Nat.zero_le _, Nat.zero_le _⟩ dX3_seldom_19) 22 rfl ?_
    refine g_istore_n C dX3_seldom_22 [_, _, _, _, _, _, _, _, _, _, _, _, _] (Nat.le_of_ble_eq_true rfl) rfl rfl 23 rfl ?_
    refine g_iload_n C dX3_seldom_23 rfl 24 rfl ?_
    refine g_if_eq C dX3_seldom_24 hR 33 27 (by decide) rfl (fun c_24 hR => ?_) (fun c_24 hR => ?_)
    · refine g_aload_n C dX3_seldom_33 rfl 34 rfl ?_
      obtain ⟨v1, hv1, hR⟩ := opt_b hR
      refine g_callV C (rn_V C (k_X3_think l g b y S N_ v1 hv1) (cwV 0 C.1.2.2.2.2 (gdV wl_403 wl_400 wl_401 wl_402 wl_2) rfl rfl rfl hd_X3_think ⟨Nat.le_of_ble_eq_true rfl, Nat.le_of_ble_eq_true rfl⟩) 0 rfl rfl _ rg_C rg_n rfl rfl (Nat.le_of_ble_eq_true rfl) ⟨Nat.zero_le _, Nat.zero_le _⟩ dX3_seldom_34) (wC g b y v1) (rg_put (wC_len.trans wC_len.symm)) (rg_len (wC_len.trans wC_len.symm)) 37 rfl ?_
      refine g_aload_n C dX3_seldom_37 rfl 38 rfl ?_
      refine g_get (v := .ref (b 24)) C (hiC hiA_3) 0 rfl rfl 11 (by decide) (List.mem_cons_of_mem _ wl_33) rfl rfl dX3_seldom_38 41 rfl ?_
      obtain ⟨v2, hv2, hR⟩ := opt_b hR
      refine g_callLR C (rn_VN C (k_X2_sumOfAll l g (b 24) (b 27) (v1.2 0) N_ v2 hv2) ⟨va_cnB 0 C.1.2.2.2.2 (gdA wl_478) rfl rfl rfl (nst C (List.mem_of_getElem? (i := 18) rfl)) (C.1.2.2.2.2 _ (List.mem_cons_of_mem _ wl_32)) hd_X2_sumOfAll.2 ⟨Nat.le_of_ble_eq_true rfl, Nat.le_of_ble_eq_true rfl⟩, C.1.2.2.2.2 _ (List.mem_cons_of_mem _ wl_476), C.1.2.2.2.2 _ (List.mem_cons_of_mem _ wl_477)⟩ 39 rfl rfl [39, 42] rfl rfl rfl rfl (Nat.le_of_ble_eq_true rfl) ⟨Nat.zero_le _, Nat.zero_le _⟩ dX3_seldom_41) 44 rfl ?_
      refine g_lstore C dX3_seldom_44 [_, _, _, _, _, _, _, _, _, _, _, _, _] (Nat.le_of_ble_eq_true rfl) rfl rfl 46 rfl ?_
      refine g_bipush C dX3_seldom_46 (-9) bp_m9 48 rfl ?_
      refine g_istore C dX3_seldom_48 [_, _, _, _, _, _, _, _, _, _, _, _, _] (Nat.le_of_ble_eq_true rfl) rfl rfl 50 rfl ?_
      refine g_lconst C dX3_seldom_50 0 (by decide) 51 rfl ?_
      refine g_lstore C dX3_seldom_51 [_, _, _, _, _, _, _, _, _, _, _, _, _] (Nat.le_of_ble_eq_true rfl) rfl rfl 53 rfl ?_
      refine g_iconst C dX3_seldom_53 0 ic_0 54 rfl ?_
      refine g_istore C dX3_seldom_54 [_, _, _, _, _, _, _, _, _, _, _, _, _] (Nat.le_of_ble_eq_true rfl) rfl rfl 56 rfl ?_
      refine g_lv [some (.ref (b 0)), some (.int p0), some (.int p1), some (.int (f_X3_refusalOutside p1 0 100)), some (.long v2), none, some (.int (-9)), some (.long 0), none, some (.int 0), none, none, none] (lvLe.sm (lvLe.sm (lvLe.sm (lvLe.sm (lvLe.sm (lvLe.nn (lvLe.sm (lvLe.sm (lvLe.nn (lvLe.sm (lvLe.nn (lvLe.nn (lvLe.nn lvLe.nil))))))))))))) ?_
      obtain ⟨v9, hv9, hR⟩ := opt_b hR
      refine k_X3_seldom_L56 l g C N_ p0 p1 (f_X3_refusalOutside p1 0 100) v2 y v1 N_ (-9) 0 0 _ hv9 ?_
      refine g_iload C dX3_seldom_141 rfl 143 rfl ?_
      obtain rfl := Option.some.inj hR
      exact g_iret C hr hlocks hA (by first | (dsimp only; done) | rfl) (by first | (dsimp only; done) | rfl) dX3_seldom_143
    · refine g_aload_n C dX3_seldom_27 rfl 28 rfl ?_
      refine g_iload_n C dX3_seldom_28 rfl 29 rfl ?_
      refine g_callI C (rn_V C (k_X3_refuse l g b y S (f_X3_refusalOutside p1 0 100)) (cwV 1 C.1.2.2.2.2 (gdV wl_99 wl_96 wl_97 wl_98 wl_2) rfl rfl rfl hd_X3_refuse ⟨Nat.le_of_ble_eq_true rfl, Nat.le_of_ble_eq_true rfl⟩) 0 rfl rfl _ rg_C rg_n rfl rfl (Nat.le_of_ble_eq_true rfl) ⟨Nat.zero_le _, Nat.zero_le _⟩ dX3_seldom_29) (wC g b y ((f_X3_refuse S (f_X3_refusalOutside p1 0 100)).2)) (rg_put (wC_len.trans wC_len.symm)) (rg_len (wC_len.trans wC_len.symm)) 32 rfl ?_
      obtain rfl := Option.some.inj hR
      exact g_iret C hr hlocks hA (by first | (dsimp only; done) | rfl) (by first | (dsimp only; done) | rfl) dX3_seldom_32
theorem hd_X3_join : yX3_join.cls = RX3 ∧ yX3_join.cls ≠ "java/lang/invoke/MethodHandle" ∧ yX3_join.cls ≠ "java/lang/invoke/VarHandle" ∧ (parseMethodDescriptor yX3_join.desc).map (fun d => d.parameters.length) = some 4 := by decide +kernel
def f_X3_join (S : (Nat → Nat → Int32) × (Nat → Nat → Int64)) (p0 : Int32) (p1 : Int32) (p2 : Int32) (p3 : Int32) (N_ : Nat) : Option (Int64 × ((Nat → Nat → Int32) × (Nat → Nat → Int64))) :=
  if jIn (S.1 0 0) p0 then
    if jIn (S.1 0 0) p1 then
      if p0 = p1 then
        some ((f_X3_refuseLong S (-1)).1, (f_X3_refuseLong S (-1)).2)
      else
        if (b2i (f_X3_isOneOf p2 3)) = 0 then
          some ((f_X3_refuseLong S (-1)).1, (f_X3_refuseLong S (-1)).2)
        else
          if (b2i (f_X3_isOneOf p3 2)) = 0 then
            some ((f_X3_refuseLong S (-2)).1, (f_X3_refuseLong S (-2)).2)
          else
            (f_X2_weigh (S.2 1) (S.1 5 (Int32.toNatClampNeg p0)) (S.1 8 (Int32.toNatClampNeg p0)) N_).bind fun v1 =>
            (f_X2_weigh (S.2 2) (S.1 5 (Int32.toNatClampNeg p1)) (S.1 8 (Int32.toNatClampNeg p1)) N_).bind fun v2 =>
            (f_X2_worseOf (S.2 0) v1 v2 N_).bind fun v3 =>
            (f_X2_sumOfAll v1 N_).bind fun v4 =>
            (f_X2_sumOfAll v2 N_).bind fun v5 =>
            (f_X1_bestSum (S.1 0 3) v3 p2 N_).bind fun v6 =>
            (f_X1_bestSum (S.1 0 3) v1 p2 N_).bind fun v7 =>
            (f_X1_bestSum (S.1 0 3) v2 p2 N_).bind fun v8 =>
            (f_X3_inLeastTerms (((Int32.toInt64 ((S.1 7 (Int32.toNatClampNeg p0)) + (S.1 7 (Int32.toNatClampNeg p1)))) * v6) - ((((Int32.toInt64 (S.1 7 (Int32.toNatClampNeg p0))) * v7) * v5) + (((Int32.toInt64 (S.1 7 (Int32.toNatClampNeg p1))) * v8) * v4))) (v4 * v5) p3 N_).bind fun v9 =>
            some (v9, (S.1, (kLS (kLS (kLS S.2 0 v3) 1 v1) 2 v2)))
    else
      some ((f_X3_refuseLong S (-1)).1, (f_X3_refuseLong S (-1)).2)
  else
    if jIn (S.1 0 0) p1 then
      some ((f_X3_refuseLong S (-1)).1, (f_X3_refuseLong S (-1)).2)
    else
      some ((f_X3_refuseLong S (-1)).1, (f_X3_refuseLong S (-1)).2)
set_option maxRecDepth 100000 in
set_option maxHeartbeats 4000000 in
theorem k_X3_join (l : Launch) (g : gE) (b : Nat → Nat) (y : Nat → Nat → Nat) (S : (Nat → Nat → Int32) × (Nat → Nat → Int64)) (p0 : Int32) (p1 : Int32) (p2 : Int32) (p3 : Int32) (N_ : Nat) (R_ : Int64 × ((Nat → Nat → Int32) × (Nat → Nat → Int64))) (hR : f_X3_join S p0 p1 p2 p3 N_ = some R_) : FnL l g yX3_join wA_X3_join { frames := 4, cells := 0, slots := 0, locals := 97 } [.ref (b 0), .int p0, .int p1, .int p2, .int p3] (wC g b y S) R_.1 (wC g b y R_.2) := by
  refine fEntry (As := [.ref (b 0), .int p0, .int p1, .int p2, .int p3]) (maxL := 15) (ret := (some .long)) (by decide) rfl [some (.ref (b 0)), some (.int p0), some (.int p1), some (.int p2), some (.int p3), none, none, none, none, none, none, none, none, none, none] (Nat.le_of_ble_eq_true rfl) (lvInB.to (lvInB.sm (lvInB.sm (lvInB.sm (lvInB.sm (lvInB.sm (lvInB.nn (lvInB.nn (lvInB.nn (lvInB.nn (lvInB.nn (lvInB.nn (lvInB.nn (lvInB.nn (lvInB.nn (lvInB.nn lvInB.nil)))))))))))))))) ?_
  intro p e s m below meth c A C hr hlocks hname hA
  have C : Cx p s m _ c g A cX3_join 15 wA_X3_join RX3 := C
  rw [f_X3_join] at hR
  refine g_aload_n C dX3_join_0 rfl 1 rfl ?_
  refine g_get (v := .ref (b 1)) C (hiC hiA_3) 0 rfl rfl 0 (by decide) (List.mem_cons_of_mem _ wl_15) rfl rfl dX3_join_1 4 rfl ?_
  refine g_iload_n C dX3_join_4 rfl 5 rfl ?_
  refine g_callQR C (rn_VN C (k_X1_jugAtq l g (b 1) (b 2) (b 3) (b 4) (b 5) (b 6) (S.1 0 0) (S.1 0 1) (S.1 0 2) (S.1 0 3) (S.1 0 4) (y 0) p0) ⟨va_cnB 1 C.1.2.2.2.2 (gdA wl_143) rfl rfl rfl (nst C (List.mem_of_getElem? (i := 8) rfl)) (C.1.2.2.2.2 _ (List.mem_cons_of_mem _ wl_14)) hd_X1_jugAt.2 ⟨Nat.le_of_ble_eq_true rfl, Nat.le_of_ble_eq_true rfl⟩, C.1.2.2.2.2 _ (List.mem_cons_of_mem _ wl_141), C.1.2.2.2.2 _ (List.mem_cons_of_mem _ wl_142)⟩ 1 rfl rfl [1, 2] rfl rfl rfl rfl (Nat.le_of_ble_eq_true rfl) ⟨Nat.zero_le _, Nat.zero_le _⟩ dX3_join_5) hR 8 rfl (fun c_5 hR => ?_) (fun c_5 hR => ?_)
  · have hj_5 : (Int32.toNatClampNeg p0) < 5 := jIn_lt c_5
    refine g_astore C dX3_join_8 [_, _, _, _, _, _, _, _, _, _, _, _, _, _, _] (Nat.le_of_ble_eq_true rfl) rfl rfl 10 rfl ?_
    refine g_aload_n C dX3_join_10 rfl 11 rfl ?_
    refine g_get (v := .ref (b 1)) C (hiC hiA_3) 0 rfl rfl 0 (by decide) (List.mem_cons_of_mem _ wl_15) rfl rfl dX3_join_11 14 rfl ?_
    refine g_iload_n C dX3_join_14 rfl 15 rfl ?_
    refine g_callQR C (rn_VN C (k_X1_jugAtq l g (b 1) (b 2) (b 3) (b 4) (b 5) (b 6) (S.1 0 0) (S.1 0 1) (S.1 0 2) (S.1 0 3) (S.1 0 4) (y 0) p1) ⟨va_cnB 1 C.1.2.2.2.2 (gdA wl_143) rfl rfl rfl (nst C (List.mem_of_getElem? (i := 8) rfl)) (C.1.2.2.2.2 _ (List.mem_cons_of_mem _ wl_14)) hd_X1_jugAt.2 ⟨Nat.le_of_ble_eq_true rfl, Nat.le_of_ble_eq_true rfl⟩, C.1.2.2.2.2 _ (List.mem_cons_of_mem _ wl_141), C.1.2.2.2.2 _ (List.mem_cons_of_mem _ wl_142)⟩ 1 rfl rfl [1, 2] rfl rfl rfl rfl (Nat.le_of_ble_eq_true rfl) ⟨Nat.zero_le _, Nat.zero_le _⟩ dX3_join_15) hR 18 rfl (fun c_15 hR => ?_) (fun c_15 hR => ?_)
    · have hj_15 : (Int32.toNatClampNeg p1) < 5 := jIn_lt c_15
      refine g_astore C dX3_join_18 [_, _, _, _, _, _, _, _, _, _, _, _, _, _, _] (Nat.le_of_ble_eq_true rfl) rfl rfl 20 rfl ?_
      refine g_aload C dX3_join_20 rfl 22 rfl ?_
      refine g_ifnull C dX3_join_22 25 rfl ?_
      refine g_aload C dX3_join_25 rfl 27 rfl ?_
      refine g_ifnull C dX3_join_27 30 rfl ?_
      refine g_iload_n C dX3_join_30 rfl 31 rfl ?_
      refine g_iload_n C dX3_join_31 rfl 32 rfl ?_
      refine g_icmp_eq C dX3_join_32 hR 43 35 (by decide) rfl (fun c_32 hR => ?_) (fun c_32 hR => ?_)
      · refine g_aload_n C dX3_join_43 rfl 44 rfl ?_
        refine g_iconst C dX3_join_44 (-1) ic_m1 45 rfl ?_
        refine g_callL C (rn_V C (k_X3_refuseLong l g b y S (-1)) (cwV 1 C.1.2.2.2.2 (gdV wl_453 wl_450 wl_451 wl_452 wl_2) rfl rfl rfl hd_X3_refuseLong ⟨Nat.le_of_ble_eq_true rfl, Nat.le_of_ble_eq_true rfl⟩) 0 rfl rfl _ rg_C rg_n rfl rfl (Nat.le_of_ble_eq_true rfl) ⟨Nat.zero_le _, Nat.zero_le _⟩ dX3_join_45) (wC g b y ((f_X3_refuseLong S (-1)).2)) (rg_put (wC_len.trans wC_len.symm)) (rg_len (wC_len.trans wC_len.symm)) 48 rfl ?_
        obtain rfl := Option.some.inj hR
        exact g_lret C hr hlocks hA (by first | (dsimp only; done) | rfl) (by first | (dsimp only; done) | rfl) dX3_join_48
      · refine g_iload_n C dX3_join_35 rfl 36 rfl ?_
        refine g_iconst C dX3_join_36 3 ic_3 37 rfl ?_
        refine g_callIR C (rn_S C (k_X3_isOneOf l g p2 3) (va_cwS 2 C.1.2.2.2.2 (gdS wl_95 wl_93 wl_94 wl_2) rfl rfl rfl hd_X3_isOneOf.2 ⟨Nat.le_of_ble_eq_true rfl, Nat.le_of_ble_eq_true rfl⟩) [] rfl rfl rfl rfl (Nat.le_of_ble_eq_true rfl) ⟨Nat.zero_le _, Nat.zero_le _⟩ dX3_join_37) 40 rfl ?_
        refine g_if_ne C dX3_join_40 hR 49 43 (by decide) rfl (fun c_40 hR => ?_) (fun c_40 hR => ?_)
        · refine g_iload C dX3_join_49 rfl 51 rfl ?_
          refine g_iconst C dX3_join_51 2 ic_2 52 rfl ?_
          refine g_callIR C (rn_S C (k_X3_isOneOf l g p3 2) (va_cwS 2 C.1.2.2.2.2 (gdS wl_95 wl_93 wl_94 wl_2) rfl rfl rfl hd_X3_isOneOf.2 ⟨Nat.le_of_ble_eq_true rfl, Nat.le_of_ble_eq_true rfl⟩) [] rfl rfl rfl rfl (Nat.le_of_ble_eq_true rfl) ⟨Nat.zero_le _, Nat.zero_le _⟩ dX3_join_52) 55 rfl ?_
          refine g_if_ne C dX3_join_55 hR 65 58 (by decide) rfl (fun c_55 hR => ?_) (fun c_55 hR => ?_)
          · refine g_aload_n C dX3_join_65 rfl 66 rfl ?_
            refine g_get (v := .ref (b 25)) C (hiC hiA_3) 0 rfl rfl 12 (by decide) (List.mem_cons_of_mem _ wl_34) rfl rfl dX3_join_66 69 rfl ?_
            refine g_aload C dX3_join_69 rfl 71 rfl ?_
            obtain ⟨v1, hv1, hR⟩ := opt_b hR
            refine g_callV C (rn_VN C (k_X2_weigh l g (b 25) (b 28) (y 0 (Int32.toNatClampNeg p0)) (S.2 1) (S.1 5 (Int32.toNatClampNeg p0)) (S.1 6 (Int32.toNatClampNeg p0)) (S.1 7 (Int32.toNatClampNeg p0)) (S.1 8 (Int32.toNatClampNeg p0)) N_ v1 hv1) ⟨va_cnB 1 C.1.2.2.2.2 (gdA wl_406) rfl rfl rfl (nst C (List.mem_of_getElem? (i := 22) rfl)) (C.1.2.2.2.2 _ (List.mem_cons_of_mem _ wl_32)) hd_X2_weigh.2 ⟨Nat.le_of_ble_eq_true rfl, Nat.le_of_ble_eq_true rfl⟩, C.1.2.2.2.2 _ (List.mem_cons_of_mem _ wl_404), C.1.2.2.2.2 _ (List.mem_cons_of_mem _ wl_405)⟩ 40 rfl rfl [40, 43, 7 + (Int32.toNatClampNeg p0)] (hC_c rfl (hC_c rfl (hC_c (wC_jug hj_5) hC_n))) (nd_3 (by omega) (by omega) (by omega)) rfl rfl (Nat.le_of_ble_eq_true rfl) ⟨Nat.zero_le _, Nat.zero_le _⟩ dX3_join_71) (wC g b y (S.1, (kLS S.2 1 v1))) (wC_jl3 (g := g) (b := b) (y := y) (S := (S.1, (kLS S.2 1 v1))) hj_5 rfl) rfl 74 rfl ?_
            refine g_aload_n C dX3_join_74 rfl 75 rfl ?_
            refine g_get (v := .ref (b 26)) C (hiC hiA_3) 0 rfl rfl 13 (by decide) (List.mem_cons_of_mem _ wl_35) rfl rfl dX3_join_75 78 rfl ?_
            refine g_aload C dX3_join_78 rfl 80 rfl ?_
            obtain ⟨v2, hv2, hR⟩ := opt_b hR
            refine g_callV C (rn_VN C (k_X2_weigh l g (b 26) (b 29) (y 0 (Int32.toNatClampNeg p1)) (S.2 2) (S.1 5 (Int32.toNatClampNeg p1)) (S.1 6 (Int32.toNatClampNeg p1)) (S.1 7 (Int32.toNatClampNeg p1)) (S.1 8 (Int32.toNatClampNeg p1)) N_ v2 hv2) ⟨va_cnB 1 C.1.2.2.2.2 (gdA wl_406) rfl rfl rfl (nst C (List.mem_of_getElem? (i := 22) rfl)) (C.1.2.2.2.2 _ (List.mem_cons_of_mem _ wl_32)) hd_X2_weigh.2 ⟨Nat.le_of_ble_eq_true rfl, Nat.le_of_ble_eq_true rfl⟩, C.1.2.2.2.2 _ (List.mem_cons_of_mem _ wl_404), C.1.2.2.2.2 _ (List.mem_cons_of_mem _ wl_405)⟩ 41 rfl rfl [41, 44, 7 + (Int32.toNatClampNeg p1)] (hC_c rfl (hC_c rfl (hC_c (wC_jug hj_15) hC_n))) (nd_3 (by omega) (by omega) (by omega)) rfl rfl (Nat.le_of_ble_eq_true rfl) ⟨Nat.zero_le _, Nat.zero_le _⟩ dX3_join_80) (wC g b y (S.1, (kLS (kLS S.2 1 v1) 2 v2))) (wC_jl3 (g := g) (b := b) (y := y) (S := (S.1, (kLS (kLS S.2 1 v1) 2 v2))) hj_15 rfl) rfl 83 rfl ?_
            refine g_aload_n C dX3_join_83 rfl 84 rfl ?_
            refine g_get (v := .ref (b 24)) C (hiC hiA_3) 0 rfl rfl 11 (by decide) (List.mem_cons_of_mem _ wl_33) rfl rfl dX3_join_84 87 rfl ?_
            refine g_aload_n C dX3_join_87 rfl 88 rfl ?_
            refine g_get (v := .ref (b 25)) C (hiC hiA_3) 0 rfl rfl 12 (by decide) (List.mem_cons_of_mem _ wl_34) rfl rfl dX3_join_88 91 rfl ?_
            refine g_aload_n C dX3_join_91 rfl 92 rfl ?_
            refine g_get (v := .ref (b 26)) C (hiC hiA_3) 0 rfl rfl 13 (by decide) (List.mem_cons_of_mem _ wl_35) rfl rfl dX3_join_92 95 rfl ?_
            obtain ⟨v3, hv3, hR⟩ := opt_b hR
            refine g_callV C (rn_VN C (k_X2_worseOf l g (b 24) (b 27) (b 25) (b 28) (b 26) (b 29) (S.2 0) v1 v2 N_ v3 hv3) ⟨va_cnB 2 C.1.2.2.2.2 (gdA wl_795) rfl rfl rfl (nst C (List.mem_of_getElem? (i := 27) rfl)) (C.1.2.2.2.2 _ (List.mem_cons_of_mem _ wl_32)) hd_X2_worseOf.2 ⟨Nat.le_of_ble_eq_true rfl, Nat.le_of_ble_eq_true rfl⟩, C.1.2.2.2.2 _ (List.mem_cons_of_mem _ wl_793), C.1.2.2.2.2 _ (List.mem_cons_of_mem _ wl_794)⟩ 39 rfl rfl [39, 42, 40, 43, 41, 44] rfl rfl rfl rfl (Nat.le_of_ble_eq_true rfl) ⟨Nat.zero_le _, Nat.zero_le _⟩ dX3_join_95) (wC g b y (S.1, (kLS (kLS (kLS S.2 0 v3) 1 v1) 2 v2))) rfl rfl 98 rfl ?_
            refine g_aload_n C dX3_join_98 rfl 99 rfl ?_
            refine g_get (v := .ref (b 25)) C (hiC hiA_3) 0 rfl rfl 12 (by decide) (List.mem_cons_of_mem _ wl_34) rfl rfl dX3_join_99 102 rfl ?_
            obtain ⟨v4, hv4, hR⟩ := opt_b hR
            refine g_callLR C (rn_VN C (k_X2_sumOfAll l g (b 25) (b 28) v1 N_ v4 hv4) ⟨va_cnB 0 C.1.2.2.2.2 (gdA wl_478) rfl rfl rfl (nst C (List.mem_of_getElem? (i := 18) rfl)) (C.1.2.2.2.2 _ (List.mem_cons_of_mem _ wl_32)) hd_X2_sumOfAll.2 ⟨Nat.le_of_ble_eq_true rfl, Nat.le_of_ble_eq_true rfl⟩, C.1.2.2.2.2 _ (List.mem_cons_of_mem _ wl_476), C.1.2.2.2.2 _ (List.mem_cons_of_mem _ wl_477)⟩ 40 rfl rfl [40, 43] rfl rfl rfl rfl (Nat.le_of_ble_eq_true rfl) ⟨Nat.zero_le _, Nat.zero_le _⟩ dX3_join_102) 105 rfl ?_
            refine g_lstore C dX3_join_105 [_, _, _, _, _, _, _, _, _, _, _, _, _, _, _] (Nat.le_of_ble_eq_true rfl) rfl rfl 107 rfl ?_
            refine g_aload_n C dX3_join_107 rfl 108 rfl ?_
            refine g_get (v := .ref (b 26)) C (hiC hiA_3) 0 rfl rfl 13 (by decide) (List.mem_cons_of_mem _ wl_35) rfl rfl dX3_join_108 111 rfl ?_
            obtain ⟨v5, hv5, hR⟩ := opt_b hR
            refine g_callLR C (rn_VN C (k_X2_sumOfAll l g (b 26) (b 29) v2 N_ v5 hv5) ⟨va_cnB 0 C.1.2.2.2.2 (gdA wl_478) rfl rfl rfl (nst C (List.mem_of_getElem? (i := 18) rfl)) (C.1.2.2.2.2 _ (List.mem_cons_of_mem _ wl_32)) hd_X2_sumOfAll.2 ⟨Nat.le_of_ble_eq_true rfl, Nat.le_of_ble_eq_true rfl⟩, C.1.2.2.2.2 _ (List.mem_cons_of_mem _ wl_476), C.1.2.2.2.2 _ (List.mem_cons_of_mem _ wl_477)⟩ 41 rfl rfl [41, 44] rfl rfl rfl rfl (Nat.le_of_ble_eq_true rfl) ⟨Nat.zero_le _, Nat.zero_le _⟩ dX3_join_111) 114 rfl ?_
            refine g_lstore C dX3_join_114 [_, _, _, _, _, _, _, _, _, _, _, _, _, _, _] (Nat.le_of_ble_eq_true rfl) rfl rfl 116 rfl ?_
            refine g_aload C dX3_join_116 rfl 118 rfl ?_
            refine g_getN (v := .int (S.1 7 (Int32.toNatClampNeg p0))) C (hiC hiA_0) (7 + (Int32.toNatClampNeg p0)) (wC_jug hj_5) rfl 2 (by decide) (List.mem_of_getElem? (i := 3) rfl) rfl rfl dX3_join_118 121 rfl ?_
            refine g_aload C dX3_join_121 rfl 123 rfl ?_
            refine g_getN (v := .int (S.1 7 (Int32.toNatClampNeg p1))) C (hiC hiA_0) (7 + (Int32.toNatClampNeg p1)) (wC_jug hj_15) rfl 2 (by decide) (List.mem_of_getElem? (i := 3) rfl) rfl rfl dX3_join_123 126 rfl ?_
            refine g_iadd C dX3_join_126 127 rfl ?_
            refine g_i2l C dX3_join_127 128 rfl ?_
            refine g_aload_n C dX3_join_128 rfl 129 rfl ?_
            refine g_get (v := .ref (b 1)) C (hiC hiA_3) 0 rfl rfl 0 (by decide) (List.mem_cons_of_mem _ wl_15) rfl rfl dX3_join_129 132 rfl ?_
            refine g_iload_n C dX3_join_132 rfl 133 rfl ?_
            refine g_aload_n C dX3_join_133 rfl 134 rfl ?_
            refine g_get (v := .ref (b 24)) C (hiC hiA_3) 0 rfl rfl 11 (by decide) (List.mem_cons_of_mem _ wl_33) rfl rfl dX3_join_134 137 rfl ?_
            obtain ⟨v6, hv6, hR⟩ := opt_b hR
            refine g_callLR C (rn_VN C (k_X1_bestSum l g (b 1) (b 2) (b 3) (b 4) (b 5) (b 6) (b 24) (b 27) (S.1 0 0) (S.1 0 1) (S.1 0 2) (S.1 0 3) (S.1 0 4) v3 p2 N_ v6 hv6) ⟨va_cnB 2 C.1.2.2.2.2 (gdA wl_593) rfl rfl rfl (nst C (List.mem_of_getElem? (i := 24) rfl)) (C.1.2.2.2.2 _ (List.mem_cons_of_mem _ wl_14)) hd_X1_bestSum.2 ⟨Nat.le_of_ble_eq_true rfl, Nat.le_of_ble_eq_true rfl⟩, C.1.2.2.2.2 _ (List.mem_cons_of_mem _ wl_591), C.1.2.2.2.2 _ (List.mem_cons_of_mem _ wl_592)⟩ 1 rfl rfl [1, 39, 42] rfl rfl rfl rfl (Nat.le_of_ble_eq_true rfl) ⟨Nat.zero_le _, Nat.zero_le _⟩ dX3_join_137) 140 rfl ?_
            refine g_lmul C dX3_join_140 141 rfl ?_
            refine g_lstore C dX3_join_141 [_, _, _, _, _, _, _, _, _, _, _, _, _, _, _] (Nat.le_of_ble_eq_true rfl) rfl rfl 143 rfl ?_
            refine g_aload C dX3_join_143 rfl 145 rfl ?_
            refine g_getN (v := .int (S.1 7 (Int32.toNatClampNeg p0))) C (hiC hiA_0) (7 + (Int32.toNatClampNeg p0)) (wC_jug hj_5) rfl 2 (by decide) (List.mem_of_getElem? (i := 3) rfl) rfl rfl dX3_join_145 148 rfl ?_
            refine g_i2l C dX3_join_148 149 rfl ?_
            refine g_aload_n C dX3_join_149 rfl 150 rfl ?_
            refine g_get (v := .ref (b 1)) C (hiC hiA_3) 0 rfl rfl 0 (by decide) (List.mem_cons_of_mem _ wl_15) rfl rfl dX3_join_150 153 rfl ?_
            refine g_iload_n C dX3_join_153 rfl 154 rfl ?_
            refine g_aload_n C dX3_join_154 rfl 155 rfl ?_
            refine g_get (v := .ref (b 25)) C (hiC hiA_3) 0 rfl rfl 12 (by decide) (List.mem_cons_of_mem _ wl_34) rfl rfl dX3_join_155 158 rfl ?_
            obtain ⟨v7, hv7, hR⟩ := opt_b hR
            refine g_callLR C (rn_VN C (k_X1_bestSum l g (b 1) (b 2) (b 3) (b 4) (b 5) (b 6) (b 25) (b 28) (S.1 0 0) (S.1 0 1) (S.1 0 2) (S.1 0 3) (S.1 0 4) v1 p2 N_ v7 hv7) ⟨va_cnB 2 C.1.2.2.2.2 (gdA wl_593) rfl rfl rfl (nst C (List.mem_of_getElem? (i := 24) rfl)) (C.1.2.2.2.2 _ (List.mem_cons_of_mem _ wl_14)) hd_X1_bestSum.2 ⟨Nat.le_of_ble_eq_true rfl, Nat.le_of_ble_eq_true rfl⟩, C.1.2.2.2.2 _ (List.mem_cons_of_mem _ wl_591), C.1.2.2.2.2 _ (List.mem_cons_of_mem _ wl_592)⟩ 1 rfl rfl [1, 40, 43] rfl rfl rfl rfl (Nat.le_of_ble_eq_true rfl) ⟨Nat.zero_le _, Nat.zero_le _⟩ dX3_join_158) 161 rfl ?_
            refine g_lmul C dX3_join_161 162 rfl ?_
            refine g_lload C dX3_join_162 rfl 164 rfl ?_
            refine g_lmul C dX3_join_164 165 rfl ?_
            refine g_aload C dX3_join_165 rfl 167 rfl ?_
            refine g_getN (v := .int (S.1 7 (Int32.toNatClampNeg p1))) C (hiC hiA_0) (7 + (Int32.toNatClampNeg p1)) (wC_jug hj_15) rfl 2 (by decide) (List.mem_of_getElem? (i := 3) rfl) rfl rfl dX3_join_167 170 rfl ?_
            refine g_i2l C dX3_join_170 171 rfl ?_
            refine g_aload_n C dX3_join_171 rfl 172 rfl ?_
            refine g_get (v := .ref (b 1)) C (hiC hiA_3) 0 rfl rfl 0 (by decide) (List.mem_cons_of_mem _ wl_15) rfl rfl dX3_join_172 175 rfl ?_
            refine g_iload_n C dX3_join_175 rfl 176 rfl ?_
            refine g_aload_n C dX3_join_176 rfl 177 rfl ?_
            refine g_get (v := .ref (b 26)) C (hiC hiA_3) 0 rfl rfl 13 (by decide) (List.mem_cons_of_mem _ wl_35) rfl rfl dX3_join_177 180 rfl ?_
            obtain ⟨v8, hv8, hR⟩ := opt_b hR
            refine g_callLR C (rn_VN C (k_X1_bestSum l g (b 1) (b 2) (b 3) (b 4) (b 5) (b 6) (b 26) (b 29) (S.1 0 0) (S.1 0 1) (S.1 0 2) (S.1 0 3) (S.1 0 4) v2 p2 N_ v8 hv8) ⟨va_cnB 2 C.1.2.2.2.2 (gdA wl_593) rfl rfl rfl (nst C (List.mem_of_getElem? (i := 24) rfl)) (C.1.2.2.2.2 _ (List.mem_cons_of_mem _ wl_14)) hd_X1_bestSum.2 ⟨Nat.le_of_ble_eq_true rfl, Nat.le_of_ble_eq_true rfl⟩, C.1.2.2.2.2 _ (List.mem_cons_of_mem _ wl_591), C.1.2.2.2.2 _ (List.mem_cons_of_mem _ wl_592)⟩ 1 rfl rfl [1, 41, 44] rfl rfl rfl rfl (Nat.le_of_ble_eq_true rfl) ⟨Nat.zero_le _, Nat.zero_le _⟩ dX3_join_180) 183 rfl ?_
            refine g_lmul C dX3_join_183 184 rfl ?_
            refine g_lload C dX3_join_184 rfl 186 rfl ?_
            refine g_lmul C dX3_join_186 187 rfl ?_
            refine g_ladd C dX3_join_187 188 rfl ?_
            refine g_lstore C dX3_join_188 [_, _, _, _, _, _, _, _, _, _, _, _, _, _, _] (Nat.le_of_ble_eq_true rfl) rfl rfl 190 rfl ?_
            refine g_lload C dX3_join_190 rfl 192 rfl ?_
            refine g_lload C dX3_join_192 rfl 194 rfl ?_
            refine g_lsub C dX3_join_194 195 rfl ?_
            refine g_lload C dX3_join_195 rfl 197 rfl ?_
            refine g_lload C dX3_join_197 rfl 199 rfl ?_
            refine g_lmul C dX3_join_199 200 rfl ?_
            refine g_iload C dX3_join_200 rfl 202 rfl ?_
            obtain ⟨v9, hv9, hR⟩ := opt_b hR
            refine g_callLR C (rn_S C (k_X3_inLeastTerms l g (((Int32.toInt64 ((S.1 7 (Int32.toNatClampNeg p0)) + (S.1 7 (Int32.toNatClampNeg p1)))) * v6) - ((((Int32.toInt64 (S.1 7 (Int32.toNatClampNeg p0))) * v7) * v5) + (((Int32.toInt64 (S.1 7 (Int32.toNatClampNeg p1))) * v8) * v4))) (v4 * v5) p3 N_ v9 hv9) (va_cwS 3 C.1.2.2.2.2 (gdS wl_481 wl_479 wl_480 wl_2) rfl rfl rfl hd_X3_inLeastTerms.2 ⟨Nat.le_of_ble_eq_true rfl, Nat.le_of_ble_eq_true rfl⟩) [] rfl rfl rfl rfl (Nat.le_of_ble_eq_true rfl) ⟨Nat.zero_le _, Nat.zero_le _⟩ dX3_join_202) 205 rfl ?_
            obtain rfl := Option.some.inj hR
            exact g_lret C hr hlocks hA (by first | (dsimp only; done) | rfl) (by first | (dsimp only; done) | rfl) dX3_join_205
          · refine g_aload_n C dX3_join_58 rfl 59 rfl ?_
            refine g_bipush C dX3_join_59 (-2) bp_m2 61 rfl ?_
            refine g_callL C (rn_V C (k_X3_refuseLong l g b y S (-2)) (cwV 1 C.1.2.2.2.2 (gdV wl_453 wl_450 wl_451 wl_452 wl_2) rfl rfl rfl hd_X3_refuseLong ⟨Nat.le_of_ble_eq_true rfl, Nat.le_of_ble_eq_true rfl⟩) 0 rfl rfl _ rg_C rg_n rfl rfl (Nat.le_of_ble_eq_true rfl) ⟨Nat.zero_le _, Nat.zero_le _⟩ dX3_join_61) (wC g b y ((f_X3_refuseLong S (-2)).2)) (rg_put (wC_len.trans wC_len.symm)) (rg_len (wC_len.trans wC_len.symm)) 64 rfl ?_
            obtain rfl := Option.some.inj hR
            exact g_lret C hr hlocks hA (by first | (dsimp only; done) | rfl) (by first | (dsimp only; done) | rfl) dX3_join_64
        · refine g_aload_n C dX3_join_43 rfl 44 rfl ?_
          refine g_iconst C dX3_join_44 (-1) ic_m1 45 rfl ?_
          refine g_callL C (rn_V C (k_X3_refuseLong l g b y S (-1)) (cwV 1 C.1.2.2.2.2 (gdV wl_453 wl_450 wl_451 wl_452 wl_2) rfl rfl rfl hd_X3_refuseLong ⟨Nat.le_of_ble_eq_true rfl, Nat.le_of_ble_eq_true rfl⟩) 0 rfl rfl _ rg_C rg_n rfl rfl (Nat.le_of_ble_eq_true rfl) ⟨Nat.zero_le _, Nat.zero_le _⟩ dX3_join_45) (wC g b y ((f_X3_refuseLong S (-1)).2)) (rg_put (wC_len.trans wC_len.symm)) (rg_len (wC_len.trans wC_len.symm)) 48 rfl ?_
          obtain rfl := Option.some.inj hR
          exact g_lret C hr hlocks hA (by first | (dsimp only; done) | rfl) (by first | (dsimp only; done) | rfl) dX3_join_48
    · refine g_astoreN C dX3_join_18 [_, _, _, _, _, _, _, _, _, _, _, _, _, _, _] (Nat.le_of_ble_eq_true rfl) rfl rfl 20 rfl ?_
      refine g_aload C dX3_join_20 rfl 22 rfl ?_
      refine g_ifnull C dX3_join_22 25 rfl ?_
      refine g_aloadN C dX3_join_25 rfl 27 rfl ?_
      refine g_ifnullN C dX3_join_27 43 (by decide) ?_
      refine g_aload_n C dX3_join_43 rfl 44 rfl ?_
      refine g_iconst C dX3_join_44 (-1) ic_m1 45 rfl ?_
      refine g_callL C (rn_V C (k_X3_refuseLong l g b y S (-1)) (cwV 1 C.1.2.2.2.2 (gdV wl_453 wl_450 wl_451 wl_452 wl_2) rfl rfl rfl hd_X3_refuseLong ⟨Nat.le_of_ble_eq_true rfl, Nat.le_of_ble_eq_true rfl⟩) 0 rfl rfl _ rg_C rg_n rfl rfl (Nat.le_of_ble_eq_true rfl) ⟨Nat.zero_le _, Nat.zero_le _⟩ dX3_join_45) (wC g b y ((f_X3_refuseLong S (-1)).2)) (rg_put (wC_len.trans wC_len.symm)) (rg_len (wC_len.trans wC_len.symm)) 48 rfl ?_
      obtain rfl := Option.some.inj hR
      exact g_lret C hr hlocks hA (by first | (dsimp only; done) | rfl) (by first | (dsimp only; done) | rfl) dX3_join_48
  · refine g_astoreN C dX3_join_8 [_, _, _, _, _, _, _, _, _, _, _, _, _, _, _] (Nat.le_of_ble_eq_true rfl) rfl rfl 10 rfl ?_
    refine g_aload_n C dX3_join_10 rfl 11 rfl ?_
    refine g_get (v := .ref (b 1)) C (hiC hiA_3) 0 rfl rfl 0 (by decide) (List.mem_cons_of_mem _ wl_15) rfl rfl dX3_join_11 14 rfl ?_
    refine g_iload_n C dX3_join_14 rfl 15 rfl ?_
    refine g_callQR C (rn_VN C (k_X1_jugAtq l g (b 1) (b 2) (b 3) (b 4) (b 5) (b 6) (S.1 0 0) (S.1 0 1) (S.1 0 2) (S.1 0 3) (S.1 0 4) (y 0) p1) ⟨va_cnB 1 C.1.2.2.2.2 (gdA wl_143) rfl rfl rfl (nst C (List.mem_of_getElem? (i := 8) rfl)) (C.1.2.2.2.2 _ (List.mem_cons_of_mem _ wl_14)) hd_X1_jugAt.2 ⟨Nat.le_of_ble_eq_true rfl, Nat.le_of_ble_eq_true rfl⟩, C.1.2.2.2.2 _ (List.mem_cons_of_mem _ wl_141), C.1.2.2.2.2 _ (List.mem_cons_of_mem _ wl_142)⟩ 1 rfl rfl [1, 2] rfl rfl rfl rfl (Nat.le_of_ble_eq_true rfl) ⟨Nat.zero_le _, Nat.zero_le _⟩ dX3_join_15) hR 18 rfl (fun c_15 hR => ?_) (fun c_15 hR => ?_)
    · have hj_15 : (Int32.toNatClampNeg p1) < 5 := jIn_lt c_15
      refine g_astore C dX3_join_18 [_, _, _, _, _, _, _, _, _, _, _, _, _, _, _] (Nat.le_of_ble_eq_true rfl) rfl rfl 20 rfl ?_
      refine g_aloadN C dX3_join_20 rfl 22 rfl ?_
      refine g_ifnullN C dX3_join_22 43 (by decide) ?_
      refine g_aload_n C dX3_join_43 rfl 44 rfl ?_
      refine g_iconst C dX3_join_44 (-1) ic_m1 45 rfl ?_
      refine g_callL C (rn_V C (k_X3_refuseLong l g b y S (-1)) (cwV 1 C.1.2.2.2.2 (gdV wl_453 wl_450 wl_451 wl_452 wl_2) rfl rfl rfl hd_X3_refuseLong ⟨Nat.le_of_ble_eq_true rfl, Nat.le_of_ble_eq_true rfl⟩) 0 rfl rfl _ rg_C rg_n rfl rfl (Nat.le_of_ble_eq_true rfl) ⟨Nat.zero_le _, Nat.zero_le _⟩ dX3_join_45) (wC g b y ((f_X3_refuseLong S (-1)).2)) (rg_put (wC_len.trans wC_len.symm)) (rg_len (wC_len.trans wC_len.symm)) 48 rfl ?_
      obtain rfl := Option.some.inj hR
      exact g_lret C hr hlocks hA (by first | (dsimp only; done) | rfl) (by first | (dsimp only; done) | rfl) dX3_join_48
    · refine g_astoreN C dX3_join_18 [_, _, _, _, _, _, _, _, _, _, _, _, _, _, _] (Nat.le_of_ble_eq_true rfl) rfl rfl 20 rfl ?_
      refine g_aloadN C dX3_join_20 rfl 22 rfl ?_
      refine g_ifnullN C dX3_join_22 43 (by decide) ?_
      refine g_aload_n C dX3_join_43 rfl 44 rfl ?_
      refine g_iconst C dX3_join_44 (-1) ic_m1 45 rfl ?_
      refine g_callL C (rn_V C (k_X3_refuseLong l g b y S (-1)) (cwV 1 C.1.2.2.2.2 (gdV wl_453 wl_450 wl_451 wl_452 wl_2) rfl rfl rfl hd_X3_refuseLong ⟨Nat.le_of_ble_eq_true rfl, Nat.le_of_ble_eq_true rfl⟩) 0 rfl rfl _ rg_C rg_n rfl rfl (Nat.le_of_ble_eq_true rfl) ⟨Nat.zero_le _, Nat.zero_le _⟩ dX3_join_45) (wC g b y ((f_X3_refuseLong S (-1)).2)) (rg_put (wC_len.trans wC_len.symm)) (rg_len (wC_len.trans wC_len.symm)) 48 rfl ?_
      obtain rfl := Option.some.inj hR
      exact g_lret C hr hlocks hA (by first | (dsimp only; done) | rfl) (by first | (dsimp only; done) | rfl) dX3_join_48
theorem hd_X3_larder : yX3_larder.cls = RX3 ∧ yX3_larder.cls ≠ "java/lang/invoke/MethodHandle" ∧ yX3_larder.cls ≠ "java/lang/invoke/VarHandle" ∧ (parseMethodDescriptor yX3_larder.desc).map (fun d => d.parameters.length) = some 4 := by decide +kernel
def f_X3_larder (S : (Nat → Nat → Int32) × (Nat → Nat → Int64)) (p0 : Int32) (p1 : Int32) (p2 : Int32) (p3 : Int32) (N_ : Nat) : Option (Int32 × ((Nat → Nat → Int32) × (Nat → Nat → Int64))) :=
  if p0 < 1 then
    some ((f_X3_refuse S (-4)).1, (f_X3_refuse S (-4)).2)
  else
    if p1 < 1 then
      some ((f_X3_refuse S (-4)).1, (f_X3_refuse S (-4)).2)
    else
      if p2 < 1 then
        some ((f_X3_refuse S (-4)).1, (f_X3_refuse S (-4)).2)
      else
        if 0 ≤ p3 then
          if 30 < p0 then
            some ((f_X3_refuse S (-6)).1, (f_X3_refuse S (-6)).2)
          else
            if 7 < p1 then
              some ((f_X3_refuse S (-6)).1, (f_X3_refuse S (-6)).2)
            else
              if 9 < p2 then
                some ((f_X3_refuse S (-6)).1, (f_X3_refuse S (-6)).2)
              else
                if p3 ≤ 9 then
                  if (S.1 30 2) = 7 then
                    (f_X3_larderCosts S p0 p1 p2 p3 N_).bind fun v1 =>
                    some (v1, S)
                  else
                    some ((f_X3_refuse S (-3)).1, (f_X3_refuse S (-3)).2)
                else
                  some ((f_X3_refuse S (-6)).1, (f_X3_refuse S (-6)).2)
        else
          some ((f_X3_refuse S (-4)).1, (f_X3_refuse S (-4)).2)
set_option maxRecDepth 100000 in
set_option maxHeartbeats 4000000 in
theorem k_X3_larder (l : Launch) (g : gE) (b : Nat → Nat) (y : Nat → Nat → Nat) (S : (Nat → Nat → Int32) × (Nat → Nat → Int64)) (p0 : Int32) (p1 : Int32) (p2 : Int32) (p3 : Int32) (N_ : Nat) (R_ : Int32 × ((Nat → Nat → Int32) × (Nat → Nat → Int64))) (hR : f_X3_larder S p0 p1 p2 p3 N_ = some R_) : FnI l g yX3_larder wA_X3_larder { frames := 2, cells := 0, slots := 0, locals := 52 } [.ref (b 0), .int p0, .int p1, .int p2, .int p3] (wC g b y S) R_.1 (wC g b y R_.2) := by
  refine fEntry (As := [.ref (b 0), .int p0, .int p1, .int p2, .int p3]) (maxL := 5) (ret := (some .int)) (by decide) rfl [some (.ref (b 0)), some (.int p0), some (.int p1), some (.int p2), some (.int p3)] (Nat.le_of_ble_eq_true rfl) (lvInB.to (lvInB.sm (lvInB.sm (lvInB.sm (lvInB.sm (lvInB.sm lvInB.nil)))))) ?_
  intro p e s m below meth c A C hr hlocks hname hA
  have C : Cx p s m _ c g A cX3_larder 5 wA_X3_larder RX3 := C
  rw [f_X3_larder] at hR
  refine g_iload_n C dX3_larder_0 rfl 1 rfl ?_
  refine g_iconst C dX3_larder_1 1 ic_1 2 rfl ?_
  refine g_icmp_lt C dX3_larder_2 hR 20 5 (by decide) rfl (fun c_2 hR => ?_) (fun c_2 hR => ?_)
  · refine g_aload_n C dX3_larder_20 rfl 21 rfl ?_
    refine g_bipush C dX3_larder_21 (-4) bp_m4 23 rfl ?_
    refine g_callI C (rn_V C (k_X3_refuse l g b y S (-4)) (cwV 1 C.1.2.2.2.2 (gdV wl_99 wl_96 wl_97 wl_98 wl_2) rfl rfl rfl hd_X3_refuse ⟨Nat.le_of_ble_eq_true rfl, Nat.le_of_ble_eq_true rfl⟩) 0 rfl rfl _ rg_C rg_n rfl rfl (Nat.le_of_ble_eq_true rfl) ⟨Nat.zero_le _, Nat.zero_le _⟩ dX3_larder_23) (wC g b y ((f_X3_refuse S (-4)).2)) (rg_put (wC_len.trans wC_len.symm)) (rg_len (wC_len.trans wC_len.symm)) 26 rfl ?_
    obtain rfl := Option.some.inj hR
    exact g_iret C hr hlocks hA (by first | (dsimp only; done) | rfl) (by first | (dsimp only; done) | rfl) dX3_larder_26
  · refine g_iload_n C dX3_larder_5 rfl 6 rfl ?_
    refine g_iconst C dX3_larder_6 1 ic_1 7 rfl ?_
    refine g_icmp_lt C dX3_larder_7 hR 20 10 (by decide) rfl (fun c_7 hR => ?_) (fun c_7 hR => ?_)
    · refine g_aload_n C dX3_larder_20 rfl 21 rfl ?_
      refine g_bipush C dX3_larder_21 (-4) bp_m4 23 rfl ?_
      refine g_callI C (rn_V C (k_X3_refuse l g b y S (-4)) (cwV 1 C.1.2.2.2.2 (gdV wl_99 wl_96 wl_97 wl_98 wl_2) rfl rfl rfl hd_X3_refuse ⟨Nat.le_of_ble_eq_true rfl, Nat.le_of_ble_eq_true rfl⟩) 0 rfl rfl _ rg_C rg_n rfl rfl (Nat.le_of_ble_eq_true rfl) ⟨Nat.zero_le _, Nat.zero_le _⟩ dX3_larder_23) (wC g b y ((f_X3_refuse S (-4)).2)) (rg_put (wC_len.trans wC_len.symm)) (rg_len (wC_len.trans wC_len.symm)) 26 rfl ?_
      obtain rfl := Option.some.inj hR
      exact g_iret C hr hlocks hA (by first | (dsimp only; done) | rfl) (by first | (dsimp only; done) | rfl) dX3_larder_26
    · refine g_iload_n C dX3_larder_10 rfl 11 rfl ?_
      refine g_iconst C dX3_larder_11 1 ic_1 12 rfl ?_
      refine g_icmp_lt C dX3_larder_12 hR 20 15 (by decide) rfl (fun c_12 hR => ?_) (fun c_12 hR => ?_)
      · refine g_aload_n C dX3_larder_20 rfl 21 rfl ?_
        refine g_bipush C dX3_larder_21 (-4) bp_m4 23 rfl ?_
        refine g_callI C (rn_V C (k_X3_refuse l g b y S (-4)) (cwV 1 C.1.2.2.2.2 (gdV wl_99 wl_96 wl_97 wl_98 wl_2) rfl rfl rfl hd_X3_refuse ⟨Nat.le_of_ble_eq_true rfl, Nat.le_of_ble_eq_true rfl⟩) 0 rfl rfl _ rg_C rg_n rfl rfl (Nat.le_of_ble_eq_true rfl) ⟨Nat.zero_le _, Nat.zero_le _⟩ dX3_larder_23) (wC g b y ((f_X3_refuse S (-4)).2)) (rg_put (wC_len.trans wC_len.symm)) (rg_len (wC_len.trans wC_len.symm)) 26 rfl ?_
        obtain rfl := Option.some.inj hR
        exact g_iret C hr hlocks hA (by first | (dsimp only; done) | rfl) (by first | (dsimp only; done) | rfl) dX3_larder_26
      · refine g_iload C dX3_larder_15 rfl 17 rfl ?_
        refine g_if_ge C dX3_larder_17 hR 27 20 (by decide) rfl (fun c_17 hR => ?_) (fun c_17 hR => ?_)
        · refine g_iload_n C dX3_larder_27 rfl 28 rfl ?_
          refine g_bipush C dX3_larder_28 30 bp_30 30 rfl ?_
          refine g_icmp_gt C dX3_larder_30 hR 52 33 (by decide) rfl (fun c_30 hR => ?_) (fun c_30 hR => ?_)
          · refine g_aload_n C dX3_larder_52 rfl 53 rfl ?_
            refine g_bipush C dX3_larder_53 (-6) bp_m6 55 rfl ?_
            refine g_callI C (rn_V C (k_X3_refuse l g b y S (-6)) (cwV 1 C.1.2.2.2.2 (gdV wl_99 wl_96 wl_97 wl_98 wl_2) rfl rfl rfl hd_X3_refuse ⟨Nat.le_of_ble_eq_true rfl, Nat.le_of_ble_eq_true rfl⟩) 0 rfl rfl _ rg_C rg_n rfl rfl (Nat.le_of_ble_eq_true rfl) ⟨Nat.zero_le _, Nat.zero_le _⟩ dX3_larder_55) (wC g b y ((f_X3_refuse S (-6)).2)) (rg_put (wC_len.trans wC_len.symm)) (rg_len (wC_len.trans wC_len.symm)) 58 rfl ?_
            obtain rfl := Option.some.inj hR
            exact g_iret C hr hlocks hA (by first | (dsimp only; done) | rfl) (by first | (dsimp only; done) | rfl) dX3_larder_58
          · refine g_iload_n C dX3_larder_33 rfl 34 rfl ?_
            refine g_bipush C dX3_larder_34 7 bp_7 36 rfl ?_
            refine g_icmp_gt C dX3_larder_36 hR 52 39 (by decide) rfl (fun c_36 hR => ?_) (fun c_36 hR => ?_)
            · refine g_aload_n C dX3_larder_52 rfl 53 rfl ?_
              refine g_bipush C dX3_larder_53 (-6) bp_m6 55 rfl ?_
              refine g_callI C (rn_V C (k_X3_refuse l g b y S (-6)) (cwV 1 C.1.2.2.2.2 (gdV wl_99 wl_96 wl_97 wl_98 wl_2) rfl rfl rfl hd_X3_refuse ⟨Nat.le_of_ble_eq_true rfl, Nat.le_of_ble_eq_true rfl⟩) 0 rfl rfl _ rg_C rg_n rfl rfl (Nat.le_of_ble_eq_true rfl) ⟨Nat.zero_le _, Nat.zero_le _⟩ dX3_larder_55) (wC g b y ((f_X3_refuse S (-6)).2)) (rg_put (wC_len.trans wC_len.symm)) (rg_len (wC_len.trans wC_len.symm)) 58 rfl ?_
              obtain rfl := Option.some.inj hR
              exact g_iret C hr hlocks hA (by first | (dsimp only; done) | rfl) (by first | (dsimp only; done) | rfl) dX3_larder_58
            · refine g_iload_n C dX3_larder_39 rfl 40 rfl ?_
              refine g_bipush C dX3_larder_40 9 bp_9 42 rfl ?_
              refine g_icmp_gt C dX3_larder_42 hR 52 45 (by decide) rfl (fun c_42 hR => ?_) (fun c_42 hR => ?_)
              · refine g_aload_n C dX3_larder_52 rfl 53 rfl ?_
                refine g_bipush C dX3_larder_53 (-6) bp_m6 55 rfl ?_
                refine g_callI C (rn_V C (k_X3_refuse l g b y S (-6)) (cwV 1 C.1.2.2.2.2 (gdV wl_99 wl_96 wl_97 wl_98 wl_2) rfl rfl rfl hd_X3_refuse ⟨Nat.le_of_ble_eq_true rfl, Nat.le_of_ble_eq_true rfl⟩) 0 rfl rfl _ rg_C rg_n rfl rfl (Nat.le_of_ble_eq_true rfl) ⟨Nat.zero_le _, Nat.zero_le _⟩ dX3_larder_55) (wC g b y ((f_X3_refuse S (-6)).2)) (rg_put (wC_len.trans wC_len.symm)) (rg_len (wC_len.trans wC_len.symm)) 58 rfl ?_
                obtain rfl := Option.some.inj hR
                exact g_iret C hr hlocks hA (by first | (dsimp only; done) | rfl) (by first | (dsimp only; done) | rfl) dX3_larder_58
              · refine g_iload C dX3_larder_45 rfl 47 rfl ?_
                refine g_bipush C dX3_larder_47 9 bp_9 49 rfl ?_
                refine g_icmp_le C dX3_larder_49 hR 59 52 (by decide) rfl (fun c_49 hR => ?_) (fun c_49 hR => ?_)
                · refine g_aload_n C dX3_larder_59 rfl 60 rfl ?_
                  refine g_get (v := .int (S.1 30 2)) C (hiC hiA_3) 0 rfl rfl 7 (by decide) (List.mem_cons_of_mem _ wl_23) rfl rfl dX3_larder_60 63 rfl ?_
                  refine g_bipush C dX3_larder_63 7 bp_7 65 rfl ?_
                  refine g_icmp_eq C dX3_larder_65 hR 75 68 (by decide) rfl (fun c_65 hR => ?_) (fun c_65 hR => ?_)
                  · refine g_aload_n C dX3_larder_75 rfl 76 rfl ?_
                    refine g_iload_n C dX3_larder_76 rfl 77 rfl ?_
                    refine g_iload_n C dX3_larder_77 rfl 78 rfl ?_
                    refine g_iload_n C dX3_larder_78 rfl 79 rfl ?_
                    refine g_iload C dX3_larder_79 rfl 81 rfl ?_
                    obtain ⟨v1, hv1, hR⟩ := opt_b hR
                    refine g_callIR C (rn_V C (k_X3_larderCosts l g b y S p0 p1 p2 p3 N_ v1 hv1) (cwV 4 C.1.2.2.2.2 (gdV wl_807 wl_804 wl_805 wl_806 wl_2) rfl rfl rfl hd_X3_larderCosts ⟨Nat.le_of_ble_eq_true rfl, Nat.le_of_ble_eq_true rfl⟩) 0 rfl rfl _ rg_C rg_n rfl rfl (Nat.le_of_ble_eq_true rfl) ⟨Nat.zero_le _, Nat.zero_le _⟩ dX3_larder_81) 84 rfl ?_
                    obtain rfl := Option.some.inj hR
                    exact g_iret C hr hlocks hA (by first | (dsimp only; done) | rfl) (by first | (dsimp only; done) | rfl) dX3_larder_84
                  · refine g_aload_n C dX3_larder_68 rfl 69 rfl ?_
                    refine g_bipush C dX3_larder_69 (-3) bp_m3 71 rfl ?_
                    refine g_callI C (rn_V C (k_X3_refuse l g b y S (-3)) (cwV 1 C.1.2.2.2.2 (gdV wl_99 wl_96 wl_97 wl_98 wl_2) rfl rfl rfl hd_X3_refuse ⟨Nat.le_of_ble_eq_true rfl, Nat.le_of_ble_eq_true rfl⟩) 0 rfl rfl _ rg_C rg_n rfl rfl (Nat.le_of_ble_eq_true rfl) ⟨Nat.zero_le _, Nat.zero_le _⟩ dX3_larder_71) (wC g b y ((f_X3_refuse S (-3)).2)) (rg_put (wC_len.trans wC_len.symm)) (rg_len (wC_len.trans wC_len.symm)) 74 rfl ?_
                    obtain rfl := Option.some.inj hR
                    exact g_iret C hr hlocks hA (by first | (dsimp only; done) | rfl) (by first | (dsimp only; done) | rfl) dX3_larder_74
                · refine g_aload_n C dX3_larder_52 rfl 53 rfl ?_
                  refine g_bipush C dX3_larder_53 (-6) bp_m6 55 rfl ?_
                  refine g_callI C (rn_V C (k_X3_refuse l g b y S (-6)) (cwV 1 C.1.2.2.2.2 (gdV wl_99 wl_96 wl_97 wl_98 wl_2) rfl rfl rfl hd_X3_refuse ⟨Nat.le_of_ble_eq_true rfl, Nat.le_of_ble_eq_true rfl⟩) 0 rfl rfl _ rg_C rg_n rfl rfl (Nat.le_of_ble_eq_true rfl) ⟨Nat.zero_le _, Nat.zero_le _⟩ dX3_larder_55) (wC g b y ((f_X3_refuse S (-6)).2)) (rg_put (wC_len.trans wC_len.symm)) (rg_len (wC_len.trans wC_len.symm)) 58 rfl ?_
                  obtain rfl := Option.some.inj hR
                  exact g_iret C hr hlocks hA (by first | (dsimp only; done) | rfl) (by first | (dsimp only; done) | rfl) dX3_larder_58
        · refine g_aload_n C dX3_larder_20 rfl 21 rfl ?_
          refine g_bipush C dX3_larder_21 (-4) bp_m4 23 rfl ?_
          refine g_callI C (rn_V C (k_X3_refuse l g b y S (-4)) (cwV 1 C.1.2.2.2.2 (gdV wl_99 wl_96 wl_97 wl_98 wl_2) rfl rfl rfl hd_X3_refuse ⟨Nat.le_of_ble_eq_true rfl, Nat.le_of_ble_eq_true rfl⟩) 0 rfl rfl _ rg_C rg_n rfl rfl (Nat.le_of_ble_eq_true rfl) ⟨Nat.zero_le _, Nat.zero_le _⟩ dX3_larder_23) (wC g b y ((f_X3_refuse S (-4)).2)) (rg_put (wC_len.trans wC_len.symm)) (rg_len (wC_len.trans wC_len.symm)) 26 rfl ?_
          obtain rfl := Option.some.inj hR
          exact g_iret C hr hlocks hA (by first | (dsimp only; done) | rfl) (by first | (dsimp only; done) | rfl) dX3_larder_26
theorem hd_X3_buy : yX3_buy.cls = RX3 ∧ yX3_buy.cls ≠ "java/lang/invoke/MethodHandle" ∧ yX3_buy.cls ≠ "java/lang/invoke/VarHandle" ∧ (parseMethodDescriptor yX3_buy.desc).map (fun d => d.parameters.length) = some 2 := by decide +kernel
def f_X3_buy_L77 (x1 : Int32) (x2 : Int32) (x5 : Int32) (S : (Nat → Nat → Int32) × (Nat → Nat → Int64)) (N_ : Nat) : Nat → Int32 → Int32 → Int32 → Option (Int32 × Int32 × Int32)
  | 0, _, _, _ => none
  | n_ + 1, x3, x4, x6 =>
    if 7 < x6 then
      some (x3, x4, x6)
    else
      (f_X3_larderCosts S x1 x6 x5 x2 N_).bind fun v4 =>
      if x4 ≤ v4 then
        f_X3_buy_L77 x1 x2 x5 S N_ n_ x3 x4 (x6 + 1)
      else
        f_X3_buy_L77 x1 x2 x5 S N_ n_ ((10 * x5) + x6) v4 (x6 + 1)
set_option maxRecDepth 100000 in
set_option maxHeartbeats 4000000 in
theorem k_X3_buy_L77 (l : Launch) (g : gE) {p : Program} {e : Env} {s : State} {m : MethodId} {args : Array Value} {below : List Frame} {meth : Method} {c : Code} {Q : State → Prop} {A : Nat → Prop} {b : Nat → Nat}  (C : Cx p s m args c g A cX3_buy 8 wA_X3_buy RX3) (N_ : Nat) (x1 : Int32) (x2 : Int32) (x5 : Int32) (y : Nat → Nat → Nat) (S : (Nat → Nat → Int32) × (Nat → Nat → Int64)) : ∀ (n_ : Nat) (x3 : Int32) (x4 : Int32) (x6 : Int32) (rv_ : Int32 × Int32 × Int32), f_X3_buy_L77 x1 x2 x5 S N_ n_ x3 x4 x6 = some rv_ → (Gm p l e (headSpec wA_X3_buy ({ frames := 2, cells := 0, slots := 0, locals := 52 } : Room)).room s m args below meth c Q g A 8 0 0 (wC g b y S) [some (.ref (b 0)), some (.int x1), some (.int x2), some (.int rv_.1), some (.int rv_.2.1), some (.int x5), some (.int rv_.2.2), none] [] 122) → Gm p l e (headSpec wA_X3_buy ({ frames := 2, cells := 0, slots := 0, locals := 52 } : Room)).room s m args below meth c Q g A 8 0 0 (wC g b y S) [some (.ref (b 0)), some (.int x1), some (.int x2), some (.int x3), some (.int x4), some (.int x5), some (.int x6), none] [] 77 := by
  intro n_
  induction n_ with
  | zero =>
    intro x3 x4 x6 rv_ hR
    simp [f_X3_buy_L77] at hR
  | succ n_ ih =>
    intro x3 x4 x6 rv_ hR hk
    rw [f_X3_buy_L77] at hR
    refine g_iload C dX3_buy_77 rfl 79 rfl ?_
    refine g_bipush C dX3_buy_79 7 bp_7 81 rfl ?_
    refine g_icmp_gt C dX3_buy_81 hR 122 84 (by decide) rfl (fun c_81 hR => ?_) (fun c_81 hR => ?_)
    · obtain rfl := Option.some.inj hR
      refine g_lv [some (.ref (b 0)), some (.int x1), some (.int x2), some (.int x3), some (.int x4), some (.int x5), some (.int x6), none] (lvLe.sm (lvLe.sm (lvLe.sm (lvLe.sm (lvLe.sm (lvLe.sm (lvLe.sm (lvLe.nn lvLe.nil)))))))) ?_
      exact hk
    · refine g_aload_n C dX3_buy_84 rfl 85 rfl ?_
      refine g_iload_n C dX3_buy_85 rfl 86 rfl ?_
      refine g_iload C dX3_buy_86 rfl 88 rfl ?_
      refine g_iload C dX3_buy_88 rfl 90 rfl ?_
      refine g_iload_n C dX3_buy_90 rfl 91 rfl ?_
      obtain ⟨v4, hv4, hR⟩ := opt_b hR
      refine g_callIR C (rn_V C (k_X3_larderCosts l g b y S x1 x6 x5 x2 N_ v4 hv4) (cwV 4 C.1.2.2.2.2 (gdV wl_807 wl_804 wl_805 wl_806 wl_2) rfl rfl rfl hd_X3_larderCosts ⟨Nat.le_of_ble_eq_true rfl, Nat.le_of_ble_eq_true rfl⟩) 0 rfl rfl _ rg_C rg_n rfl rfl (Nat.le_of_ble_eq_true rfl) ⟨Nat.zero_le _, Nat.zero_le _⟩ dX3_buy_91) 94 rfl ?_
      refine g_istore C dX3_buy_94 [_, _, _, _, _, _, _, _] (Nat.le_of_ble_eq_true rfl) rfl rfl 96 rfl ?_
      refine g_iload C dX3_buy_96 rfl 98 rfl ?_
      refine g_iload C dX3_buy_98 rfl 100 rfl ?_
      refine g_icmp_ge C dX3_buy_100 hR 116 103 (by decide) rfl (fun c_100 hR => ?_) (fun c_100 hR => ?_)
      · refine g_iinc C dX3_buy_116 rfl 1 ic_1 [_, _, _, _, _, _, _, _] (Nat.le_of_ble_eq_true rfl) rfl rfl 119 rfl ?_
        refine g_goto C dX3_buy_119 77 (by decide) ?_
        refine g_lv [some (.ref (b 0)), some (.int x1), some (.int x2), some (.int x3), some (.int x4), some (.int x5), some (.int (x6 + 1)), none] (lvLe.sm (lvLe.sm (lvLe.sm (lvLe.sm (lvLe.sm (lvLe.sm (lvLe.sm (lvLe.nn lvLe.nil)))))))) ?_
        exact ih _ _ _ rv_ hR hk
      · refine g_iload C dX3_buy_103 rfl 105 rfl ?_
        refine g_istore C dX3_buy_105 [_, _, _, _, _, _, _, _] (Nat.le_of_ble_eq_true rfl) rfl rfl 107 rfl ?_
        refine g_bipush C dX3_buy_107 10 bp_10 109 rfl ?_
        refine g_iload C dX3_buy_109 rfl 111 rfl ?_
        refine g_imul C dX3_buy_111 112 rfl ?_
        refine g_iload C dX3_buy_112 rfl 114 rfl ?_
        refine g_iadd C dX3_buy_114 115 rfl ?_
        refine g_istore_n C dX3_buy_115 [_, _, _, _, _, _, _, _] (Nat.le_of_ble_eq_true rfl) rfl rfl 116 rfl ?_
        refine g_iinc C dX3_buy_116 rfl 1 ic_1 [_, _, _, _, _, _, _, _] (Nat.le_of_ble_eq_true rfl) rfl rfl 119 rfl ?_
        refine g_goto C dX3_buy_119 77 (by decide) ?_
        refine g_lv [some (.ref (b 0)), some (.int x1), some (.int x2), some (.int ((10 * x5) + x6)), some (.int v4), some (.int x5), some (.int (x6 + 1)), none] (lvLe.sm (lvLe.sm (lvLe.sm (lvLe.sm (lvLe.sm (lvLe.sm (lvLe.sm (lvLe.nn lvLe.nil)))))))) ?_
        exact ih _ _ _ rv_ hR hk
def f_X3_buy_L67 (x1 : Int32) (x2 : Int32) (S : (Nat → Nat → Int32) × (Nat → Nat → Int64)) (N_ : Nat) : Nat → Int32 → Int32 → Int32 → Option (Int32 × Int32 × Int32)
  | 0, _, _, _ => none
  | n_ + 1, x3, x4, x5 =>
    if 9 < x5 then
      some (x3, x4, x5)
    else
      (f_X3_buy_L77 x1 x2 x5 S N_ N_ x3 x4 1).bind fun v7 =>
      f_X3_buy_L67 x1 x2 S N_ n_ v7.1 v7.2.1 (x5 + 1)
set_option maxRecDepth 100000 in
set_option maxHeartbeats 4000000 in
theorem k_X3_buy_L67 (l : Launch) (g : gE) {p : Program} {e : Env} {s : State} {m : MethodId} {args : Array Value} {below : List Frame} {meth : Method} {c : Code} {Q : State → Prop} {A : Nat → Prop} {b : Nat → Nat}  (C : Cx p s m args c g A cX3_buy 8 wA_X3_buy RX3) (N_ : Nat) (x1 : Int32) (x2 : Int32) (y : Nat → Nat → Nat) (S : (Nat → Nat → Int32) × (Nat → Nat → Int64)) : ∀ (n_ : Nat) (x3 : Int32) (x4 : Int32) (x5 : Int32) (rv_ : Int32 × Int32 × Int32), f_X3_buy_L67 x1 x2 S N_ n_ x3 x4 x5 = some rv_ → (Gm p l e (headSpec wA_X3_buy ({ frames := 2, cells := 0, slots := 0, locals := 52 } : Room)).room s m args below meth c Q g A 8 0 0 (wC g b y S) [some (.ref (b 0)), some (.int x1), some (.int x2), some (.int rv_.1), some (.int rv_.2.1), some (.int rv_.2.2), none, none] [] 128) → Gm p l e (headSpec wA_X3_buy ({ frames := 2, cells := 0, slots := 0, locals := 52 } : Room)).room s m args below meth c Q g A 8 0 0 (wC g b y S) [some (.ref (b 0)), some (.int x1), some (.int x2), some (.int x3), some (.int x4), some (.int x5), none, none] [] 67 := by
  intro n_
  induction n_ with
  | zero =>
    intro x3 x4 x5 rv_ hR
    simp [f_X3_buy_L67] at hR
  | succ n_ ih =>
    intro x3 x4 x5 rv_ hR hk
    rw [f_X3_buy_L67] at hR
    refine g_iload C dX3_buy_67 rfl 69 rfl ?_
    refine g_bipush C dX3_buy_69 9 bp_9 71 rfl ?_
    refine g_icmp_gt C dX3_buy_71 hR 128 74 (by decide) rfl (fun c_71 hR => ?_) (fun c_71 hR => ?_)
    · obtain rfl := Option.some.inj hR
      refine g_lv [some (.ref (b 0)), some (.int x1), some (.int x2), some (.int x3), some (.int x4), some (.int x5), none, none] (lvLe.sm (lvLe.sm (lvLe.sm (lvLe.sm (lvLe.sm (lvLe.sm (lvLe.nn (lvLe.nn lvLe.nil)))))))) ?_
      exact hk
    · refine g_iconst C dX3_buy_74 1 ic_1 75 rfl ?_
      refine g_istore C dX3_buy_75 [_, _, _, _, _, _, _, _] (Nat.le_of_ble_eq_true rfl) rfl rfl 77 rfl ?_
      refine g_lv [some (.ref (b 0)), some (.int x1), some (.int x2), some (.int x3), some (.int x4), some (.int x5), some (.int 1), none] (lvLe.sm (lvLe.sm (lvLe.sm (lvLe.sm (lvLe.sm (lvLe.sm (lvLe.sm (lvLe.nn lvLe.nil)))))))) ?_
      obtain ⟨v7, hv7, hR⟩ := opt_b hR
      refine k_X3_buy_L77 l g C N_ x1 x2 x5 y S N_ x3 x4 1 _ hv7 ?_
      refine g_iinc C dX3_buy_122 rfl 1 ic_1 [_, _, _, _, _, _, _, _] (Nat.le_of_ble_eq_true rfl) rfl rfl 125 rfl ?_
      refine g_goto C dX3_buy_125 67 (by decide) ?_
      refine g_lv [some (.ref (b 0)), some (.int x1), some (.int x2), some (.int v7.1), some (.int v7.2.1), some (.int (x5 + 1)), none, none] (lvLe.sm (lvLe.sm (lvLe.sm (lvLe.sm (lvLe.sm (lvLe.sm (lvLe.nn (lvLe.nn lvLe.nil)))))))) ?_
      exact ih _ _ _ rv_ hR hk
def f_X3_buy (S : (Nat → Nat → Int32) × (Nat → Nat → Int64)) (p0 : Int32) (p1 : Int32) (N_ : Nat) : Option (Int32 × ((Nat → Nat → Int32) × (Nat → Nat → Int64))) :=
  if p0 < 1 then
    some ((f_X3_refuse S (-4)).1, (f_X3_refuse S (-4)).2)
  else
    if 0 ≤ p1 then
      if 30 < p0 then
        some ((f_X3_refuse S (-6)).1, (f_X3_refuse S (-6)).2)
      else
        if p1 ≤ 9 then
          if (S.1 30 2) = 7 then
            (f_X3_larderCosts S p0 1 1 p1 N_).bind fun v1 =>
            (f_X3_buy_L67 p0 p1 S N_ N_ 11 v1 1).bind fun v8 =>
            some (v8.1, S)
          else
            some ((f_X3_refuse S (-3)).1, (f_X3_refuse S (-3)).2)
        else
          some ((f_X3_refuse S (-6)).1, (f_X3_refuse S (-6)).2)
    else
      some ((f_X3_refuse S (-4)).1, (f_X3_refuse S (-4)).2)
set_option maxRecDepth 100000 in
set_option maxHeartbeats 4000000 in
theorem k_X3_buy (l : Launch) (g : gE) (b : Nat → Nat) (y : Nat → Nat → Nat) (S : (Nat → Nat → Int32) × (Nat → Nat → Int64)) (p0 : Int32) (p1 : Int32) (N_ : Nat) (R_ : Int32 × ((Nat → Nat → Int32) × (Nat → Nat → Int64))) (hR : f_X3_buy S p0 p1 N_ = some R_) : FnI l g yX3_buy wA_X3_buy { frames := 2, cells := 0, slots := 0, locals := 52 } [.ref (b 0), .int p0, .int p1] (wC g b y S) R_.1 (wC g b y R_.2) := by
  refine fEntry (As := [.ref (b 0), .int p0, .int p1]) (maxL := 8) (ret := (some .int)) (by decide) rfl [some (.ref (b 0)), some (.int p0), some (.int p1), none, none, none, none, none] (Nat.le_of_ble_eq_true rfl) (lvInB.to (lvInB.sm (lvInB.sm (lvInB.sm (lvInB.nn (lvInB.nn (lvInB.nn (lvInB.nn (lvInB.nn lvInB.nil))))))))) ?_
  intro p e s m below meth c A C hr hlocks hname hA
  have C : Cx p s m _ c g A cX3_buy 8 wA_X3_buy RX3 := C
  rw [f_X3_buy] at hR
  refine g_iload_n C dX3_buy_0 rfl 1 rfl ?_
  refine g_iconst C dX3_buy_1 1 ic_1 2 rfl ?_
  refine g_icmp_lt C dX3_buy_2 hR 9 5 (by decide) rfl (fun c_2 hR => ?_) (fun c_2 hR => ?_)
  · refine g_aload_n C dX3_buy_9 rfl 10 rfl ?_
    refine g_bipush C dX3_buy_10 (-4) bp_m4 12 rfl ?_
    refine g_callI C (rn_V C (k_X3_refuse l g b y S (-4)) (cwV 1 C.1.2.2.2.2 (gdV wl_99 wl_96 wl_97 wl_98 wl_2) rfl rfl rfl hd_X3_refuse ⟨Nat.le_of_ble_eq_true rfl, Nat.le_of_ble_eq_true rfl⟩) 0 rfl rfl _ rg_C rg_n rfl rfl (Nat.le_of_ble_eq_true rfl) ⟨Nat.zero_le _, Nat.zero_le _⟩ dX3_buy_12) (wC g b y ((f_X3_refuse S (-4)).2)) (rg_put (wC_len.trans wC_len.symm)) (rg_len (wC_len.trans wC_len.symm)) 15 rfl ?_
    obtain rfl := Option.some.inj hR
    exact g_iret C hr hlocks hA (by first | (dsimp only; done) | rfl) (by first | (dsimp only; done) | rfl) dX3_buy_15
  · refine g_iload_n C dX3_buy_5 rfl 6 rfl ?_
    refine g_if_ge C dX3_buy_6 hR 16 9 (by decide) rfl (fun c_6 hR => ?_) (fun c_6 hR => ?_)
    · refine g_iload_n C dX3_buy_16 rfl 17 rfl ?_
      refine g_bipush C dX3_buy_17 30 bp_30 19 rfl ?_
      refine g_icmp_gt C dX3_buy_19 hR 28 22 (by decide) rfl (fun c_19 hR => ?_) (fun c_19 hR => ?_)
      · refine g_aload_n C dX3_buy_28 rfl 29 rfl ?_
        refine g_bipush C dX3_buy_29 (-6) bp_m6 31 rfl ?_
        refine g_callI C (rn_V C (k_X3_refuse l g b y S (-6)) (cwV 1 C.1.2.2.2.2 (gdV wl_99 wl_96 wl_97 wl_98 wl_2) rfl rfl rfl hd_X3_refuse ⟨Nat.le_of_ble_eq_true rfl, Nat.le_of_ble_eq_true rfl⟩) 0 rfl rfl _ rg_C rg_n rfl rfl (Nat.le_of_ble_eq_true rfl) ⟨Nat.zero_le _, Nat.zero_le _⟩ dX3_buy_31) (wC g b y ((f_X3_refuse S (-6)).2)) (rg_put (wC_len.trans wC_len.symm)) (rg_len (wC_len.trans wC_len.symm)) 34 rfl ?_
        obtain rfl := Option.some.inj hR
        exact g_iret C hr hlocks hA (by first | (dsimp only; done) | rfl) (by first | (dsimp only; done) | rfl) dX3_buy_34
      · refine g_iload_n C dX3_buy_22 rfl 23 rfl ?_
        refine g_bipush C dX3_buy_23 9 bp_9 25 rfl ?_
        refine g_icmp_le C dX3_buy_25 hR 35 28 (by decide) rfl (fun c_25 hR => ?_) (fun c_25 hR => ?_)
        · refine g_aload_n C dX3_buy_35 rfl 36 rfl ?_
          refine g_get (v := .int (S.1 30 2)) C (hiC hiA_3) 0 rfl rfl 7 (by decide) (List.mem_cons_of_mem _ wl_23) rfl rfl dX3_buy_36 39 rfl ?_
          refine g_bipush C dX3_buy_39 7 bp_7 41 rfl ?_
          refine g_icmp_eq C dX3_buy_41 hR 51 44 (by decide) rfl (fun c_41 hR => ?_) (fun c_41 hR => ?_)
          · refine g_bipush C dX3_buy_51 11 bp_11 53 rfl ?_
            refine g_istore_n C dX3_buy_53 [_, _, _, _, _, _, _, _] (Nat.le_of_ble_eq_true rfl) rfl rfl 54 rfl ?_
            refine g_aload_n C dX3_buy_54 rfl 55 rfl ?_
            refine g_iload_n C dX3_buy_55 rfl 56 rfl ?_
            refine g_iconst C dX3_buy_56 1 ic_1 57 rfl ?_
            refine g_iconst C dX3_buy_57 1 ic_1 58 rfl ?_
            refine g_iload_n C dX3_buy_58 rfl 59 rfl ?_
            obtain ⟨v1, hv1, hR⟩ := opt_b hR
            refine g_callIR C (rn_V C (k_X3_larderCosts l g b y S p0 1 1 p1 N_ v1 hv1) (cwV 4 C.1.2.2.2.2 (gdV wl_807 wl_804 wl_805 wl_806 wl_2) rfl rfl rfl hd_X3_larderCosts ⟨Nat.le_of_ble_eq_true rfl, Nat.le_of_ble_eq_true rfl⟩) 0 rfl rfl _ rg_C rg_n rfl rfl (Nat.le_of_ble_eq_true rfl) ⟨Nat.zero_le _, Nat.zero_le _⟩ dX3_buy_59) 62 rfl ?_
            refine g_istore C dX3_buy_62 [_, _, _, _, _, _, _, _] (Nat.le_of_ble_eq_true rfl) rfl rfl 64 rfl ?_
            refine g_iconst C dX3_buy_64 1 ic_1 65 rfl ?_
            refine g_istore C dX3_buy_65 [_, _, _, _, _, _, _, _] (Nat.le_of_ble_eq_true rfl) rfl rfl 67 rfl ?_
            refine g_lv [some (.ref (b 0)), some (.int p0), some (.int p1), some (.int 11), some (.int v1), some (.int 1), none, none] (lvLe.sm (lvLe.sm (lvLe.sm (lvLe.sm (lvLe.sm (lvLe.sm (lvLe.nn (lvLe.nn lvLe.nil)))))))) ?_
            obtain ⟨v8, hv8, hR⟩ := opt_b hR
            refine k_X3_buy_L67 l g C N_ p0 p1 y S N_ 11 v1 1 _ hv8 ?_
            refine g_iload_n C dX3_buy_128 rfl 129 rfl ?_
            obtain rfl := Option.some.inj hR
            exact g_iret C hr hlocks hA (by first | (dsimp only; done) | rfl) (by first | (dsimp only; done) | rfl) dX3_buy_129
          · refine g_aload_n C dX3_buy_44 rfl 45 rfl ?_
            refine g_bipush C dX3_buy_45 (-3) bp_m3 47 rfl ?_
            refine g_callI C (rn_V C (k_X3_refuse l g b y S (-3)) (cwV 1 C.1.2.2.2.2 (gdV wl_99 wl_96 wl_97 wl_98 wl_2) rfl rfl rfl hd_X3_refuse ⟨Nat.le_of_ble_eq_true rfl, Nat.le_of_ble_eq_true rfl⟩) 0 rfl rfl _ rg_C rg_n rfl rfl (Nat.le_of_ble_eq_true rfl) ⟨Nat.zero_le _, Nat.zero_le _⟩ dX3_buy_47) (wC g b y ((f_X3_refuse S (-3)).2)) (rg_put (wC_len.trans wC_len.symm)) (rg_len (wC_len.trans wC_len.symm)) 50 rfl ?_
            obtain rfl := Option.some.inj hR
            exact g_iret C hr hlocks hA (by first | (dsimp only; done) | rfl) (by first | (dsimp only; done) | rfl) dX3_buy_50
        · refine g_aload_n C dX3_buy_28 rfl 29 rfl ?_
          refine g_bipush C dX3_buy_29 (-6) bp_m6 31 rfl ?_
          refine g_callI C (rn_V C (k_X3_refuse l g b y S (-6)) (cwV 1 C.1.2.2.2.2 (gdV wl_99 wl_96 wl_97 wl_98 wl_2) rfl rfl rfl hd_X3_refuse ⟨Nat.le_of_ble_eq_true rfl, Nat.le_of_ble_eq_true rfl⟩) 0 rfl rfl _ rg_C rg_n rfl rfl (Nat.le_of_ble_eq_true rfl) ⟨Nat.zero_le _, Nat.zero_le _⟩ dX3_buy_31) (wC g b y ((f_X3_refuse S (-6)).2)) (rg_put (wC_len.trans wC_len.symm)) (rg_len (wC_len.trans wC_len.symm)) 34 rfl ?_
          obtain rfl := Option.some.inj hR
          exact g_iret C hr hlocks hA (by first | (dsimp only; done) | rfl) (by first | (dsimp only; done) | rfl) dX3_buy_34
    · refine g_aload_n C dX3_buy_9 rfl 10 rfl ?_
      refine g_bipush C dX3_buy_10 (-4) bp_m4 12 rfl ?_
      refine g_callI C (rn_V C (k_X3_refuse l g b y S (-4)) (cwV 1 C.1.2.2.2.2 (gdV wl_99 wl_96 wl_97 wl_98 wl_2) rfl rfl rfl hd_X3_refuse ⟨Nat.le_of_ble_eq_true rfl, Nat.le_of_ble_eq_true rfl⟩) 0 rfl rfl _ rg_C rg_n rfl rfl (Nat.le_of_ble_eq_true rfl) ⟨Nat.zero_le _, Nat.zero_le _⟩ dX3_buy_12) (wC g b y ((f_X3_refuse S (-4)).2)) (rg_put (wC_len.trans wC_len.symm)) (rg_len (wC_len.trans wC_len.symm)) 15 rfl ?_
      obtain rfl := Option.some.inj hR
      exact g_iret C hr hlocks hA (by first | (dsimp only; done) | rfl) (by first | (dsimp only; done) | rfl) dX3_buy_15
theorem hd_X3_rule : yX3_rule.cls = RX3 ∧ yX3_rule.cls ≠ "java/lang/invoke/MethodHandle" ∧ yX3_rule.cls ≠ "java/lang/invoke/VarHandle" ∧ (parseMethodDescriptor yX3_rule.desc).map (fun d => d.parameters.length) = some 4 := by decide +kernel
def f_X3_rule (S : (Nat → Nat → Int32) × (Nat → Nat → Int64)) (p0 : Int32) (p1 : Int32) (p2 : Int32) (p3 : Int32) (N_ : Nat) : Option (Int32 × ((Nat → Nat → Int32) × (Nat → Nat → Int64))) :=
  if jIn (S.1 0 0) p0 then
    if (b2i (f_X3_isOneOf p2 3)) = 0 then
      some ((f_X3_refuseBig S (-1)).1, (f_X3_refuseBig S (-1)).2)
    else
      if (b2i (f_X3_isOneOf p1 5)) = 0 then
        some ((f_X3_refuseBig S (-2)).1, (f_X3_refuseBig S (-2)).2)
      else
        if (b2i (f_X3_isOneOf p3 2)) = 0 then
          some ((f_X3_refuseBig S (-2)).1, (f_X3_refuseBig S (-2)).2)
        else
          (f_X3_useByRule S (Int32.toNatClampNeg p0) p1 p2 N_).bind fun v1 =>
          if p3 = 0 then
            some (v1.1, v1.2)
          else
            some ((f_X3_trueNet v1.2 (Int32.toNatClampNeg p0) v1.1 p2), v1.2)
  else
    some ((f_X3_refuseBig S (-1)).1, (f_X3_refuseBig S (-1)).2)
set_option maxRecDepth 100000 in
set_option maxHeartbeats 4000000 in
theorem k_X3_rule (l : Launch) (g : gE) (b : Nat → Nat) (y : Nat → Nat → Nat) (S : (Nat → Nat → Int32) × (Nat → Nat → Int64)) (p0 : Int32) (p1 : Int32) (p2 : Int32) (p3 : Int32) (N_ : Nat) (R_ : Int32 × ((Nat → Nat → Int32) × (Nat → Nat → Int64))) (hR : f_X3_rule S p0 p1 p2 p3 N_ = some R_) : FnI l g yX3_rule wA_X3_rule { frames := 5, cells := 0, slots := 0, locals := 123 } [.ref (b 0), .int p0, .int p1, .int p2, .int p3] (wC g b y S) R_.1 (wC g b y R_.2) := by
  refine fEntry (As := [.ref (b 0), .int p0, .int p1, .int p2, .int p3]) (maxL := 7) (ret := (some .int)) (by decide) rfl [some (.ref (b 0)), some (.int p0), some (.int p1), some (.int p2), some (.int p3), none, none] (Nat.le_of_ble_eq_true rfl) (lvInB.to (lvInB.sm (lvInB.sm (lvInB.sm (lvInB.sm (lvInB.sm (lvInB.nn (lvInB.nn lvInB.nil)))))))) ?_
  intro p e s m below meth c A C hr hlocks hname hA
  have C : Cx p s m _ c g A cX3_rule 7 wA_X3_rule RX3 := C
  rw [f_X3_rule] at hR
  refine g_aload_n C dX3_rule_0 rfl 1 rfl ?_
  refine g_get (v := .ref (b 1)) C (hiC hiA_3) 0 rfl rfl 0 (by decide) (List.mem_cons_of_mem _ wl_15) rfl rfl dX3_rule_1 4 rfl ?_
  refine g_iload_n C dX3_rule_4 rfl 5 rfl ?_
  refine g_callQR C (rn_VN C (k_X1_jugAtq l g (b 1) (b 2) (b 3) (b 4) (b 5) (b 6) (S.1 0 0) (S.1 0 1) (S.1 0 2) (S.1 0 3) (S.1 0 4) (y 0) p0) ⟨va_cnB 1 C.1.2.2.2.2 (gdA wl_143) rfl rfl rfl (nst C (List.mem_of_getElem? (i := 8) rfl)) (C.1.2.2.2.2 _ (List.mem_cons_of_mem _ wl_14)) hd_X1_jugAt.2 ⟨Nat.le_of_ble_eq_true rfl, Nat.le_of_ble_eq_true rfl⟩, C.1.2.2.2.2 _ (List.mem_cons_of_mem _ wl_141), C.1.2.2.2.2 _ (List.mem_cons_of_mem _ wl_142)⟩ 1 rfl rfl [1, 2] rfl rfl rfl rfl (Nat.le_of_ble_eq_true rfl) ⟨Nat.zero_le _, Nat.zero_le _⟩ dX3_rule_5) hR 8 rfl (fun c_5 hR => ?_) (fun c_5 hR => ?_)
  · have hj_5 : (Int32.toNatClampNeg p0) < 5 := jIn_lt c_5
    refine g_astore C dX3_rule_8 [_, _, _, _, _, _, _] (Nat.le_of_ble_eq_true rfl) rfl rfl 10 rfl ?_
    refine g_aload C dX3_rule_10 rfl 12 rfl ?_
    refine g_ifnull C dX3_rule_12 15 rfl ?_
    refine g_iload_n C dX3_rule_15 rfl 16 rfl ?_
    refine g_iconst C dX3_rule_16 3 ic_3 17 rfl ?_
    refine g_callIR C (rn_S C (k_X3_isOneOf l g p2 3) (va_cwS 2 C.1.2.2.2.2 (gdS wl_95 wl_93 wl_94 wl_2) rfl rfl rfl hd_X3_isOneOf.2 ⟨Nat.le_of_ble_eq_true rfl, Nat.le_of_ble_eq_true rfl⟩) [] rfl rfl rfl rfl (Nat.le_of_ble_eq_true rfl) ⟨Nat.zero_le _, Nat.zero_le _⟩ dX3_rule_17) 20 rfl ?_
    refine g_if_ne C dX3_rule_20 hR 29 23 (by decide) rfl (fun c_20 hR => ?_) (fun c_20 hR => ?_)
    · refine g_iload_n C dX3_rule_29 rfl 30 rfl ?_
      refine g_iconst C dX3_rule_30 5 ic_5 31 rfl ?_
      refine g_callIR C (rn_S C (k_X3_isOneOf l g p1 5) (va_cwS 2 C.1.2.2.2.2 (gdS wl_95 wl_93 wl_94 wl_2) rfl rfl rfl hd_X3_isOneOf.2 ⟨Nat.le_of_ble_eq_true rfl, Nat.le_of_ble_eq_true rfl⟩) [] rfl rfl rfl rfl (Nat.le_of_ble_eq_true rfl) ⟨Nat.zero_le _, Nat.zero_le _⟩ dX3_rule_31) 34 rfl ?_
      refine g_if_eq C dX3_rule_34 hR 46 37 (by decide) rfl (fun c_34 hR => ?_) (fun c_34 hR => ?_)
      · refine g_aload_n C dX3_rule_46 rfl 47 rfl ?_
        refine g_bipush C dX3_rule_47 (-2) bp_m2 49 rfl ?_
        refine g_callI C (rn_V C (k_X3_refuseBig l g b y S (-2)) (cwV 1 C.1.2.2.2.2 (gdV wl_832 wl_829 wl_830 wl_831 wl_2) rfl rfl rfl hd_X3_refuseBig ⟨Nat.le_of_ble_eq_true rfl, Nat.le_of_ble_eq_true rfl⟩) 0 rfl rfl _ rg_C rg_n rfl rfl (Nat.le_of_ble_eq_true rfl) ⟨Nat.zero_le _, Nat.zero_le _⟩ dX3_rule_49) (wC g b y ((f_X3_refuseBig S (-2)).2)) (rg_put (wC_len.trans wC_len.symm)) (rg_len (wC_len.trans wC_len.symm)) 52 rfl ?_
        obtain rfl := Option.some.inj hR
        exact g_iret C hr hlocks hA (by first | (dsimp only; done) | rfl) (by first | (dsimp only; done) | rfl) dX3_rule_52
      · refine g_iload C dX3_rule_37 rfl 39 rfl ?_
        refine g_iconst C dX3_rule_39 2 ic_2 40 rfl ?_
        refine g_callIR C (rn_S C (k_X3_isOneOf l g p3 2) (va_cwS 2 C.1.2.2.2.2 (gdS wl_95 wl_93 wl_94 wl_2) rfl rfl rfl hd_X3_isOneOf.2 ⟨Nat.le_of_ble_eq_true rfl, Nat.le_of_ble_eq_true rfl⟩) [] rfl rfl rfl rfl (Nat.le_of_ble_eq_true rfl) ⟨Nat.zero_le _, Nat.zero_le _⟩ dX3_rule_40) 43 rfl ?_
        refine g_if_ne C dX3_rule_43 hR 53 46 (by decide) rfl (fun c_43 hR => ?_) (fun c_43 hR => ?_)
        · refine g_aload_n C dX3_rule_53 rfl 54 rfl ?_
          refine g_aload C dX3_rule_54 rfl 56 rfl ?_
          refine g_iload_n C dX3_rule_56 rfl 57 rfl ?_
          refine g_iload_n C dX3_rule_57 rfl 58 rfl ?_
          obtain ⟨v1, hv1, hR⟩ := opt_b hR
          refine g_callI C (rn_V C (k_X3_useByRule l g b y S (Int32.toNatClampNeg p0) p1 p2 N_ v1 hv1 hj_5) (cwV 3 C.1.2.2.2.2 (gdV wl_837 wl_834 wl_835 wl_836 wl_2) rfl rfl rfl hd_X3_useByRule ⟨Nat.le_of_ble_eq_true rfl, Nat.le_of_ble_eq_true rfl⟩) 0 rfl rfl _ rg_C rg_n rfl rfl (Nat.le_of_ble_eq_true rfl) ⟨Nat.zero_le _, Nat.zero_le _⟩ dX3_rule_58) (wC g b y v1.2) (rg_put (wC_len.trans wC_len.symm)) (rg_len (wC_len.trans wC_len.symm)) 61 rfl ?_
          refine g_istore C dX3_rule_61 [_, _, _, _, _, _, _] (Nat.le_of_ble_eq_true rfl) rfl rfl 63 rfl ?_
          refine g_iload C dX3_rule_63 rfl 65 rfl ?_
          refine g_if_ne C dX3_rule_65 hR 73 68 (by decide) rfl (fun c_65 hR => ?_) (fun c_65 hR => ?_)
          · refine g_aload_n C dX3_rule_73 rfl 74 rfl ?_
            refine g_aload C dX3_rule_74 rfl 76 rfl ?_
            refine g_iload C dX3_rule_76 rfl 78 rfl ?_
            refine g_iload_n C dX3_rule_78 rfl 79 rfl ?_
            refine g_callIR C (rn_V C (k_X3_trueNet l g b y v1.2 (Int32.toNatClampNeg p0) v1.1 p2 hj_5) (cwV 3 C.1.2.2.2.2 (gdV wl_844 wl_841 wl_842 wl_843 wl_2) rfl rfl rfl hd_X3_trueNet ⟨Nat.le_of_ble_eq_true rfl, Nat.le_of_ble_eq_true rfl⟩) 0 rfl rfl _ rg_C rg_n rfl rfl (Nat.le_of_ble_eq_true rfl) ⟨Nat.zero_le _, Nat.zero_le _⟩ dX3_rule_79) 82 rfl ?_
            obtain rfl := Option.some.inj hR
            exact g_iret C hr hlocks hA (by first | (dsimp only; done) | rfl) (by first | (dsimp only; done) | rfl) dX3_rule_82
          · refine g_iload C dX3_rule_68 rfl 70 rfl ?_
            refine g_goto C dX3_rule_70 82 (by decide) ?_
            obtain rfl := Option.some.inj hR
            exact g_iret C hr hlocks hA (by first | (dsimp only; done) | rfl) (by first | (dsimp only; done) | rfl) dX3_rule_82
        · refine g_aload_n C dX3_rule_46 rfl 47 rfl ?_
          refine g_bipush C dX3_rule_47 (-2) bp_m2 49 rfl ?_
          refine g_callI C (rn_V C (k_X3_refuseBig l g b y S (-2)) (cwV 1 C.1.2.2.2.2 (gdV wl_832 wl_829 wl_830 wl_831 wl_2) rfl rfl rfl hd_X3_refuseBig ⟨Nat.le_of_ble_eq_true rfl, Nat.le_of_ble_eq_true rfl⟩) 0 rfl rfl _ rg_C rg_n rfl rfl (Nat.le_of_ble_eq_true rfl) ⟨Nat.zero_le _, Nat.zero_le _⟩ dX3_rule_49) (wC g b y ((f_X3_refuseBig S (-2)).2)) (rg_put (wC_len.trans wC_len.symm)) (rg_len (wC_len.trans wC_len.symm)) 52 rfl ?_
          obtain rfl := Option.some.inj hR
          exact g_iret C hr hlocks hA (by first | (dsimp only; done) | rfl) (by first | (dsimp only; done) | rfl) dX3_rule_52
    · refine g_aload_n C dX3_rule_23 rfl 24 rfl ?_
      refine g_iconst C dX3_rule_24 (-1) ic_m1 25 rfl ?_
      refine g_callI C (rn_V C (k_X3_refuseBig l g b y S (-1)) (cwV 1 C.1.2.2.2.2 (gdV wl_832 wl_829 wl_830 wl_831 wl_2) rfl rfl rfl hd_X3_refuseBig ⟨Nat.le_of_ble_eq_true rfl, Nat.le_of_ble_eq_true rfl⟩) 0 rfl rfl _ rg_C rg_n rfl rfl (Nat.le_of_ble_eq_true rfl) ⟨Nat.zero_le _, Nat.zero_le _⟩ dX3_rule_25) (wC g b y ((f_X3_refuseBig S (-1)).2)) (rg_put (wC_len.trans wC_len.symm)) (rg_len (wC_len.trans wC_len.symm)) 28 rfl ?_
      obtain rfl := Option.some.inj hR
      exact g_iret C hr hlocks hA (by first | (dsimp only; done) | rfl) (by first | (dsimp only; done) | rfl) dX3_rule_28
  · refine g_astoreN C dX3_rule_8 [_, _, _, _, _, _, _] (Nat.le_of_ble_eq_true rfl) rfl rfl 10 rfl ?_
    refine g_aloadN C dX3_rule_10 rfl 12 rfl ?_
    refine g_ifnullN C dX3_rule_12 23 (by decide) ?_
    refine g_aload_n C dX3_rule_23 rfl 24 rfl ?_
    refine g_iconst C dX3_rule_24 (-1) ic_m1 25 rfl ?_
    refine g_callI C (rn_V C (k_X3_refuseBig l g b y S (-1)) (cwV 1 C.1.2.2.2.2 (gdV wl_832 wl_829 wl_830 wl_831 wl_2) rfl rfl rfl hd_X3_refuseBig ⟨Nat.le_of_ble_eq_true rfl, Nat.le_of_ble_eq_true rfl⟩) 0 rfl rfl _ rg_C rg_n rfl rfl (Nat.le_of_ble_eq_true rfl) ⟨Nat.zero_le _, Nat.zero_le _⟩ dX3_rule_25) (wC g b y ((f_X3_refuseBig S (-1)).2)) (rg_put (wC_len.trans wC_len.symm)) (rg_len (wC_len.trans wC_len.symm)) 28 rfl ?_
    obtain rfl := Option.some.inj hR
    exact g_iret C hr hlocks hA (by first | (dsimp only; done) | rfl) (by first | (dsimp only; done) | rfl) dX3_rule_28
theorem hd_X3_bestRule : yX3_bestRule.cls = RX3 ∧ yX3_bestRule.cls ≠ "java/lang/invoke/MethodHandle" ∧ yX3_bestRule.cls ≠ "java/lang/invoke/VarHandle" ∧ (parseMethodDescriptor yX3_bestRule.desc).map (fun d => d.parameters.length) = some 1 := by decide +kernel
def f_X3_bestRule_L33 (x1 : Int32) (x4 : Int32) (N_ : Nat) : Nat → Int32 → Int32 → ((Nat → Nat → Int32) × (Nat → Nat → Int64)) → Option (Int32 × Int32 × ((Nat → Nat → Int32) × (Nat → Nat → Int64)))
  | 0, _, _, _ => none
  | n_ + 1, x5, x6, S =>
    if (S.1 0 0) ≤ x6 then
      some (x5, x6, S)
    else
      if jIn (S.1 0 0) x6 then
        (f_X3_useByRule S (Int32.toNatClampNeg x6) x4 x1 N_).bind fun v3 =>
        f_X3_bestRule_L33 x1 x4 N_ n_ (x5 + (f_X3_trueNet v3.2 (Int32.toNatClampNeg x6) v3.1 x1)) (x6 + 1) v3.2
      else
        f_X3_bestRule_L33 x1 x4 N_ n_ x5 (x6 + 1) S
set_option maxRecDepth 100000 in
set_option maxHeartbeats 4000000 in
theorem k_X3_bestRule_L33 (l : Launch) (g : gE) {p : Program} {e : Env} {s : State} {m : MethodId} {args : Array Value} {below : List Frame} {meth : Method} {c : Code} {Q : State → Prop} {A : Nat → Prop} {b : Nat → Nat}  (C : Cx p s m args c g A cX3_bestRule 8 wA_X3_bestRule RX3) (N_ : Nat) (x1 : Int32) (x2 : Int32) (x3 : Int32) (x4 : Int32) (y : Nat → Nat → Nat) : ∀ (n_ : Nat) (x5 : Int32) (x6 : Int32) (S : (Nat → Nat → Int32) × (Nat → Nat → Int64)) (rv_ : Int32 × Int32 × ((Nat → Nat → Int32) × (Nat → Nat → Int64))), f_X3_bestRule_L33 x1 x4 N_ n_ x5 x6 S = some rv_ → (Gm p l e (headSpec wA_X3_bestRule ({ frames := 5, cells := 0, slots := 0, locals := 123 } : Room)).room s m args below meth c Q g A 8 0 0 (wC g b y rv_.2.2) [some (.ref (b 0)), some (.int x1), some (.int x2), some (.int x3), some (.int x4), some (.int rv_.1), some (.int rv_.2.1), none] [] 88) → Gm p l e (headSpec wA_X3_bestRule ({ frames := 5, cells := 0, slots := 0, locals := 123 } : Room)).room s m args below meth c Q g A 8 0 0 (wC g b y S) [some (.ref (b 0)), some (.int x1), some (.int x2), some (.int x3), some (.int x4), some (.int x5), some (.int x6), none] [] 33 := by
  intro n_
  induction n_ with
  | zero =>
    intro x5 x6 S rv_ hR
    simp [f_X3_bestRule_L33] at hR
  | succ n_ ih =>
    intro x5 x6 S rv_ hR hk
    rw [f_X3_bestRule_L33] at hR
    refine g_iload C dX3_bestRule_33 rfl 35 rfl ?_
    refine g_aload_n C dX3_bestRule_35 rfl 36 rfl ?_
    refine g_get (v := .ref (b 1)) C (hiC hiA_3) 0 rfl rfl 0 (by decide) (List.mem_cons_of_mem _ wl_15) rfl rfl dX3_bestRule_36 39 rfl ?_
    refine g_getN (v := .int (S.1 0 0)) C (hiC hiA_1) 1 rfl rfl 1 (by decide) (List.mem_of_getElem? (i := 11) rfl) rfl rfl dX3_bestRule_39 42 rfl ?_
    refine g_icmp_ge C dX3_bestRule_42 hR 88 45 (by decide) rfl (fun c_42 hR => ?_) (fun c_42 hR => ?_)
    · obtain rfl := Option.some.inj hR
      refine g_lv [some (.ref (b 0)), some (.int x1), some (.int x2), some (.int x3), some (.int x4), some (.int x5), some (.int x6), none] (lvLe.sm (lvLe.sm (lvLe.sm (lvLe.sm (lvLe.sm (lvLe.sm (lvLe.sm (lvLe.nn lvLe.nil)))))))) ?_
      exact hk
    · refine g_aload_n C dX3_bestRule_45 rfl 46 rfl ?_
      refine g_get (v := .ref (b 1)) C (hiC hiA_3) 0 rfl rfl 0 (by decide) (List.mem_cons_of_mem _ wl_15) rfl rfl dX3_bestRule_46 49 rfl ?_
      refine g_iload C dX3_bestRule_49 rfl 51 rfl ?_
      refine g_callQR C (rn_VN C (k_X1_jugAtq l g (b 1) (b 2) (b 3) (b 4) (b 5) (b 6) (S.1 0 0) (S.1 0 1) (S.1 0 2) (S.1 0 3) (S.1 0 4) (y 0) x6) ⟨va_cnB 1 C.1.2.2.2.2 (gdA wl_143) rfl rfl rfl (nst C (List.mem_of_getElem? (i := 8) rfl)) (C.1.2.2.2.2 _ (List.mem_cons_of_mem _ wl_14)) hd_X1_jugAt.2 ⟨Nat.le_of_ble_eq_true rfl, Nat.le_of_ble_eq_true rfl⟩, C.1.2.2.2.2 _ (List.mem_cons_of_mem _ wl_141), C.1.2.2.2.2 _ (List.mem_cons_of_mem _ wl_142)⟩ 1 rfl rfl [1, 2] rfl rfl rfl rfl (Nat.le_of_ble_eq_true rfl) ⟨Nat.zero_le _, Nat.zero_le _⟩ dX3_bestRule_51) hR 54 rfl (fun c_51 hR => ?_) (fun c_51 hR => ?_)
      · have hj_51 : (Int32.toNatClampNeg x6) < 5 := jIn_lt c_51
        refine g_astore C dX3_bestRule_54 [_, _, _, _, _, _, _, _] (Nat.le_of_ble_eq_true rfl) rfl rfl 56 rfl ?_
        refine g_aload C dX3_bestRule_56 rfl 58 rfl ?_
        refine g_ifnull C dX3_bestRule_58 61 rfl ?_
        refine g_iload C dX3_bestRule_61 rfl 63 rfl ?_
        refine g_aload_n C dX3_bestRule_63 rfl 64 rfl ?_
        refine g_aload C dX3_bestRule_64 rfl 66 rfl ?_
        refine g_aload_n C dX3_bestRule_66 rfl 67 rfl ?_
        refine g_aload C dX3_bestRule_67 rfl 69 rfl ?_
        refine g_iload C dX3_bestRule_69 rfl 71 rfl ?_
        refine g_iload_n C dX3_bestRule_71 rfl 72 rfl ?_
        obtain ⟨v3, hv3, hR⟩ := opt_b hR
        refine g_callI C (rn_V C (k_X3_useByRule l g b y S (Int32.toNatClampNeg x6) x4 x1 N_ v3 hv3 hj_51) (cwV 3 C.1.2.2.2.2 (gdV wl_837 wl_834 wl_835 wl_836 wl_2) rfl rfl rfl hd_X3_useByRule ⟨Nat.le_of_ble_eq_true rfl, Nat.le_of_ble_eq_true rfl⟩) 0 rfl rfl _ rg_C rg_n rfl rfl (Nat.le_of_ble_eq_true rfl) ⟨Nat.zero_le _, Nat.zero_le _⟩ dX3_bestRule_72) (wC g b y v3.2) (rg_put (wC_len.trans wC_len.symm)) (rg_len (wC_len.trans wC_len.symm)) 75 rfl ?_
        refine g_iload_n C dX3_bestRule_75 rfl 76 rfl ?_
        refine g_callIR C (rn_V C (k_X3_trueNet l g b y v3.2 (Int32.toNatClampNeg x6) v3.1 x1 hj_51) (cwV 3 C.1.2.2.2.2 (gdV wl_844 wl_841 wl_842 wl_843 wl_2) rfl rfl rfl hd_X3_trueNet ⟨Nat.le_of_ble_eq_true rfl, Nat.le_of_ble_eq_true rfl⟩) 0 rfl rfl _ rg_C rg_n rfl rfl (Nat.le_of_ble_eq_true rfl) ⟨Nat.zero_le _, Nat.zero_le _⟩ dX3_bestRule_76) 79 rfl ?_
        refine g_iadd C dX3_bestRule_79 80 rfl ?_
        refine g_istore C dX3_bestRule_80 [_, _, _, _, _, _, _, _] (Nat.le_of_ble_eq_true rfl) rfl rfl 82 rfl ?_
        refine g_iinc C dX3_bestRule_82 rfl 1 ic_1 [_, _, _, _, _, _, _, _] (Nat.le_of_ble_eq_true rfl) rfl rfl 85 rfl ?_
        refine g_goto C dX3_bestRule_85 33 (by decide) ?_
        refine g_lv [some (.ref (b 0)), some (.int x1), some (.int x2), some (.int x3), some (.int x4), some (.int (x5 + (f_X3_trueNet v3.2 (Int32.toNatClampNeg x6) v3.1 x1))), some (.int (x6 + 1)), none] (lvLe.sm (lvLe.sm (lvLe.sm (lvLe.sm (lvLe.sm (lvLe.sm (lvLe.sm (lvLe.nn lvLe.nil)))))))) ?_
        exact ih _ _ _ rv_ hR hk
      · refine g_astoreN C dX3_bestRule_54 [_, _, _, _, _, _, _, _] (Nat.le_of_ble_eq_true rfl) rfl rfl 56 rfl ?_
        refine g_aloadN C dX3_bestRule_56 rfl 58 rfl ?_
        refine g_ifnullN C dX3_bestRule_58 82 (by decide) ?_
        refine g_iinc C dX3_bestRule_82 rfl 1 ic_1 [_, _, _, _, _, _, _, _] (Nat.le_of_ble_eq_true rfl) rfl rfl 85 rfl ?_
        refine g_goto C dX3_bestRule_85 33 (by decide) ?_
        refine g_lv [some (.ref (b 0)), some (.int x1), some (.int x2), some (.int x3), some (.int x4), some (.int x5), some (.int (x6 + 1)), none] (lvLe.sm (lvLe.sm (lvLe.sm (lvLe.sm (lvLe.sm (lvLe.sm (lvLe.sm (lvLe.nn lvLe.nil)))))))) ?_
        exact ih _ _ _ rv_ hR hk
def f_X3_bestRule_L21 (x1 : Int32) (N_ : Nat) : Nat → Int32 → Int32 → Int32 → ((Nat → Nat → Int32) × (Nat → Nat → Int64)) → Option (Int32 × Int32 × Int32 × ((Nat → Nat → Int32) × (Nat → Nat → Int64)))
  | 0, _, _, _, _ => none
  | n_ + 1, x2, x3, x4, S =>
    if 5 ≤ x4 then
      some (x2, x3, x4, S)
    else
      (f_X3_bestRule_L33 x1 x4 N_ N_ 0 0 S).bind fun v6 =>
      if x4 = 0 then
        f_X3_bestRule_L21 x1 N_ n_ x4 v6.1 (x4 + 1) v6.2.2
      else
        if v6.1 ≤ x3 then
          f_X3_bestRule_L21 x1 N_ n_ x2 x3 (x4 + 1) v6.2.2
        else
          f_X3_bestRule_L21 x1 N_ n_ x4 v6.1 (x4 + 1) v6.2.2
set_option maxRecDepth 100000 in
set_option maxHeartbeats 4000000 in
theorem k_X3_bestRule_L21 (l : Launch) (g : gE) {p : Program} {e : Env} {s : State} {m : MethodId} {args : Array Value} {below : List Frame} {meth : Method} {c : Code} {Q : State → Prop} {A : Nat → Prop} {b : Nat → Nat}  (C : Cx p s m args c g A cX3_bestRule 8 wA_X3_bestRule RX3) (N_ : Nat) (x1 : Int32) (y : Nat → Nat → Nat) : ∀ (n_ : Nat) (x2 : Int32) (x3 : Int32) (x4 : Int32) (S : (Nat → Nat → Int32) × (Nat → Nat → Int64)) (rv_ : Int32 × Int32 × Int32 × ((Nat → Nat → Int32) × (Nat → Nat → Int64))), f_X3_bestRule_L21 x1 N_ n_ x2 x3 x4 S = some rv_ → (Gm p l e (headSpec wA_X3_bestRule ({ frames := 5, cells := 0, slots := 0, locals := 123 } : Room)).room s m args below meth c Q g A 8 0 0 (wC g b y rv_.2.2.2) [some (.ref (b 0)), some (.int x1), some (.int rv_.1), some (.int rv_.2.1), some (.int rv_.2.2.1), none, none, none] [] 111) → Gm p l e (headSpec wA_X3_bestRule ({ frames := 5, cells := 0, slots := 0, locals := 123 } : Room)).room s m args below meth c Q g A 8 0 0 (wC g b y S) [some (.ref (b 0)), some (.int x1), some (.int x2), some (.int x3), some (.int x4), none, none, none] [] 21 := by
  intro n_
  induction n_ with
  | zero =>
    intro x2 x3 x4 S rv_ hR
    simp [f_X3_bestRule_L21] at hR
  | succ n_ ih =>
    intro x2 x3 x4 S rv_ hR hk
    rw [f_X3_bestRule_L21] at hR
    refine g_iload C dX3_bestRule_21 rfl 23 rfl ?_
    refine g_iconst C dX3_bestRule_23 5 ic_5 24 rfl ?_
    refine g_icmp_ge C dX3_bestRule_24 hR 111 27 (by decide) rfl (fun c_24 hR => ?_) (fun c_24 hR => ?_)
    · obtain rfl := Option.some.inj hR
      refine g_lv [some (.ref (b 0)), some (.int x1), some (.int x2), some (.int x3), some (.int x4), none, none, none] (lvLe.sm (lvLe.sm (lvLe.sm (lvLe.sm (lvLe.sm (lvLe.nn (lvLe.nn (lvLe.nn lvLe.nil)))))))) ?_
      exact hk
    · refine g_iconst C dX3_bestRule_27 0 ic_0 28 rfl ?_
      refine g_istore C dX3_bestRule_28 [_, _, _, _, _, _, _, _] (Nat.le_of_ble_eq_true rfl) rfl rfl 30 rfl ?_
      refine g_iconst C dX3_bestRule_30 0 ic_0 31 rfl ?_
      refine g_istore C dX3_bestRule_31 [_, _, _, _, _, _, _, _] (Nat.le_of_ble_eq_true rfl) rfl rfl 33 rfl ?_
      refine g_lv [some (.ref (b 0)), some (.int x1), some (.int x2), some (.int x3), some (.int x4), some (.int 0), some (.int 0), none] (lvLe.sm (lvLe.sm (lvLe.sm (lvLe.sm (lvLe.sm (lvLe.sm (lvLe.sm (lvLe.nn lvLe.nil)))))))) ?_
      obtain ⟨v6, hv6, hR⟩ := opt_b hR
      refine k_X3_bestRule_L33 l g C N_ x1 x2 x3 x4 y N_ 0 0 S _ hv6 ?_
      refine g_iload C dX3_bestRule_88 rfl 90 rfl ?_
      refine g_if_eq C dX3_bestRule_90 hR 99 93 (by decide) rfl (fun c_90 hR => ?_) (fun c_90 hR => ?_)
      · refine g_iload C dX3_bestRule_99 rfl 101 rfl ?_
        refine g_istore_n C dX3_bestRule_101 [_, _, _, _, _, _, _, _] (Nat.le_of_ble_eq_true rfl) rfl rfl 102 rfl ?_
        refine g_iload C dX3_bestRule_102 rfl 104 rfl ?_
        refine g_istore_n C dX3_bestRule_104 [_, _, _, _, _, _, _, _] (Nat.le_of_ble_eq_true rfl) rfl rfl 105 rfl ?_
        refine g_iinc C dX3_bestRule_105 rfl 1 ic_1 [_, _, _, _, _, _, _, _] (Nat.le_of_ble_eq_true rfl) rfl rfl 108 rfl ?_
        refine g_goto C dX3_bestRule_108 21 (by decide) ?_
        refine g_lv [some (.ref (b 0)), some (.int x1), some (.int x4), some (.int v6.1), some (.int (x4 + 1)), none, none, none] (lvLe.sm (lvLe.sm (lvLe.sm (lvLe.sm (lvLe.sm (lvLe.nn (lvLe.nn (lvLe.nn lvLe.nil)))))))) ?_
        exact ih _ _ _ _ rv_ hR hk
      · refine g_iload C dX3_bestRule_93 rfl 95 rfl ?_
        refine g_iload_n C dX3_bestRule_95 rfl 96 rfl ?_
        refine g_icmp_le C dX3_bestRule_96 hR 105 99 (by decide) rfl (fun c_96 hR => ?_) (fun c_96 hR => ?_)
        · refine g_iinc C dX3_bestRule_105 rfl 1 ic_1 [_, _, _, _, _, _, _, _] (Nat.le_of_ble_eq_true rfl) rfl rfl 108 rfl ?_
          refine g_goto C dX3_bestRule_108 21 (by decide) ?_
          refine g_lv [some (.ref (b 0)), some (.int x1), some (.int x2), some (.int x3), some (.int (x4 + 1)), none, none, none] (lvLe.sm (lvLe.sm (lvLe.sm (lvLe.sm (lvLe.sm (lvLe.nn (lvLe.nn (lvLe.nn lvLe.nil)))))))) ?_
          exact ih _ _ _ _ rv_ hR hk
        · refine g_iload C dX3_bestRule_99 rfl 101 rfl ?_
          refine g_istore_n C dX3_bestRule_101 [_, _, _, _, _, _, _, _] (Nat.le_of_ble_eq_true rfl) rfl rfl 102 rfl ?_
          refine g_iload C dX3_bestRule_102 rfl 104 rfl ?_
          refine g_istore_n C dX3_bestRule_104 [_, _, _, _, _, _, _, _] (Nat.le_of_ble_eq_true rfl) rfl rfl 105 rfl ?_
          refine g_iinc C dX3_bestRule_105 rfl 1 ic_1 [_, _, _, _, _, _, _, _] (Nat.le_of_ble_eq_true rfl) rfl rfl 108 rfl ?_
          refine g_goto C dX3_bestRule_108 21 (by decide) ?_
          refine g_lv [some (.ref (b 0)), some (.int x1), some (.int x4), some (.int v6.1), some (.int (x4 + 1)), none, none, none] (lvLe.sm (lvLe.sm (lvLe.sm (lvLe.sm (lvLe.sm (lvLe.nn (lvLe.nn (lvLe.nn lvLe.nil)))))))) ?_
          exact ih _ _ _ _ rv_ hR hk
def f_X3_bestRule (S : (Nat → Nat → Int32) × (Nat → Nat → Int64)) (p0 : Int32) (N_ : Nat) : Option (Int32 × ((Nat → Nat → Int32) × (Nat → Nat → Int64))) :=
  if (b2i (f_X3_isOneOf p0 3)) = 0 then
    some ((f_X3_refuse S (-1)).1, (f_X3_refuse S (-1)).2)
  else
    (f_X3_bestRule_L21 p0 N_ N_ 0 0 0 S).bind fun v7 =>
    some (v7.1, v7.2.2.2)
set_option maxRecDepth 100000 in
set_option maxHeartbeats 4000000 in
theorem k_X3_bestRule (l : Launch) (g : gE) (b : Nat → Nat) (y : Nat → Nat → Nat) (S : (Nat → Nat → Int32) × (Nat → Nat → Int64)) (p0 : Int32) (N_ : Nat) (R_ : Int32 × ((Nat → Nat → Int32) × (Nat → Nat → Int64))) (hR : f_X3_bestRule S p0 N_ = some R_) : FnI l g yX3_bestRule wA_X3_bestRule { frames := 5, cells := 0, slots := 0, locals := 123 } [.ref (b 0), .int p0] (wC g b y S) R_.1 (wC g b y R_.2) := by
  refine fEntry (As := [.ref (b 0), .int p0]) (maxL := 8) (ret := (some .int)) (by decide) rfl [some (.ref (b 0)), some (.int p0), none, none, none, none, none, none] (Nat.le_of_ble_eq_true rfl) (lvInB.to (lvInB.sm (lvInB.sm (lvInB.nn (lvInB.nn (lvInB.nn (lvInB.nn (lvInB.nn (lvInB.nn lvInB.nil))))))))) ?_
  intro p e s m below meth c A C hr hlocks hname hA
  have C : Cx p s m _ c g A cX3_bestRule 8 wA_X3_bestRule RX3 := C
  rw [f_X3_bestRule] at hR
  refine g_iload_n C dX3_bestRule_0 rfl 1 rfl ?_
  refine g_iconst C dX3_bestRule_1 3 ic_3 2 rfl ?_
  refine g_callIR C (rn_S C (k_X3_isOneOf l g p0 3) (va_cwS 2 C.1.2.2.2.2 (gdS wl_95 wl_93 wl_94 wl_2) rfl rfl rfl hd_X3_isOneOf.2 ⟨Nat.le_of_ble_eq_true rfl, Nat.le_of_ble_eq_true rfl⟩) [] rfl rfl rfl rfl (Nat.le_of_ble_eq_true rfl) ⟨Nat.zero_le _, Nat.zero_le _⟩ dX3_bestRule_2) 5 rfl ?_
  refine g_if_ne C dX3_bestRule_5 hR 14 8 (by decide) rfl (fun c_5 hR => ?_) (fun c_5 hR => ?_)
  · refine g_iconst C dX3_bestRule_14 0 ic_0 15 rfl ?_
    refine g_istore_n C dX3_bestRule_15 [_, _, _, _, _, _, _, _] (Nat.le_of_ble_eq_true rfl) rfl rfl 16 rfl ?_
    refine g_iconst C dX3_bestRule_16 0 ic_0 17 rfl ?_
    refine g_istore_n C dX3_bestRule_17 [_, _, _, _, _, _, _, _] (Nat.le_of_ble_eq_true rfl) rfl rfl 18 rfl ?_
    refine g_iconst C dX3_bestRule_18 0 ic_0 19 rfl ?_
    refine g_istore C dX3_bestRule_19 [_, _, _, _, _, _, _, _] (Nat.le_of_ble_eq_true rfl) rfl rfl 21 rfl ?_
    refine g_lv [some (.ref (b 0)), some (.int p0), some (.int 0), some (.int 0), some (.int 0), none, none, none] (lvLe.sm (lvLe.sm (lvLe.sm (lvLe.sm (lvLe.sm (lvLe.nn (lvLe.nn (lvLe.nn lvLe.nil)))))))) ?_
    obtain ⟨v7, hv7, hR⟩ := opt_b hR
    refine k_X3_bestRule_L21 l g C N_ p0 y N_ 0 0 0 S _ hv7 ?_
    refine g_iload_n C dX3_bestRule_111 rfl 112 rfl ?_
    obtain rfl := Option.some.inj hR
    exact g_iret C hr hlocks hA (by first | (dsimp only; done) | rfl) (by first | (dsimp only; done) | rfl) dX3_bestRule_112
  · refine g_aload_n C dX3_bestRule_8 rfl 9 rfl ?_
    refine g_iconst C dX3_bestRule_9 (-1) ic_m1 10 rfl ?_
    refine g_callI C (rn_V C (k_X3_refuse l g b y S (-1)) (cwV 1 C.1.2.2.2.2 (gdV wl_99 wl_96 wl_97 wl_98 wl_2) rfl rfl rfl hd_X3_refuse ⟨Nat.le_of_ble_eq_true rfl, Nat.le_of_ble_eq_true rfl⟩) 0 rfl rfl _ rg_C rg_n rfl rfl (Nat.le_of_ble_eq_true rfl) ⟨Nat.zero_le _, Nat.zero_le _⟩ dX3_bestRule_10) (wC g b y ((f_X3_refuse S (-1)).2)) (rg_put (wC_len.trans wC_len.symm)) (rg_len (wC_len.trans wC_len.symm)) 13 rfl ?_
    obtain rfl := Option.some.inj hR
    exact g_iret C hr hlocks hA (by first | (dsimp only; done) | rfl) (by first | (dsimp only; done) | rfl) dX3_bestRule_13
theorem hd_X3_ill : yX3_ill.cls = RX3 ∧ yX3_ill.cls ≠ "java/lang/invoke/MethodHandle" ∧ yX3_ill.cls ≠ "java/lang/invoke/VarHandle" ∧ (parseMethodDescriptor yX3_ill.desc).map (fun d => d.parameters.length) = some 1 := by decide +kernel
def f_X3_ill_L49  (N_ : Nat) : Nat → Int32 → Int32 → Int32 → ((Nat → Nat → Int32) × (Nat → Nat → Int64)) → Option (Int32 × Int32 × Int32 × ((Nat → Nat → Int32) × (Nat → Nat → Int64)))
  | 0, _, _, _, _ => none
  | n_ + 1, x3, x4, x5, S =>
    if (S.1 30 2) ≤ (2 * x5) then
      some (x3, x4, x5, S)
    else
      (f_X3_kindsThatFit S (S.1 34 1) (f_X3_at (S.1 32) 12 (2 * x5)) (f_X3_at (S.1 32) 12 ((2 * x5) + 1)) N_).bind fun v5 =>
      if (x3 &&& v5.1) = 0 then
        if x4 = (-9) then
          f_X3_ill_L49 N_ n_ (x3 &&& v5.1) x5 (x5 + 1) v5.2
        else
          f_X3_ill_L49 N_ n_ (x3 &&& v5.1) x4 (x5 + 1) v5.2
      else
        f_X3_ill_L49 N_ n_ (x3 &&& v5.1) x4 (x5 + 1) v5.2
set_option maxRecDepth 100000 in
set_option maxHeartbeats 4000000 in
theorem k_X3_ill_L49 (l : Launch) (g : gE) {p : Program} {e : Env} {s : State} {m : MethodId} {args : Array Value} {below : List Frame} {meth : Method} {c : Code} {Q : State → Prop} {A : Nat → Prop} {b : Nat → Nat}  (C : Cx p s m args c g A cX3_ill 6 wA_X3_ill RX3) (N_ : Nat) (x1 : Int32) (x2 : Int32) (y : Nat → Nat → Nat) : ∀ (n_ : Nat) (x3 : Int32) (x4 : Int32) (x5 : Int32) (S : (Nat → Nat → Int32) × (Nat → Nat → Int64)) (rv_ : Int32 × Int32 × Int32 × ((Nat → Nat → Int32) × (Nat → Nat → Int64))), f_X3_ill_L49 N_ n_ x3 x4 x5 S = some rv_ → (Gm p l e (headSpec wA_X3_ill ({ frames := 5, cells := 0, slots := 0, locals := 107 } : Room)).room s m args below meth c Q g A 6 0 0 (wC g b y rv_.2.2.2) [some (.ref (b 0)), some (.int x1), some (.int x2), some (.int rv_.1), some (.int rv_.2.1), some (.int rv_.2.2.1)] [] 119) → Gm p l e (headSpec wA_X3_ill ({ frames := 5, cells := 0, slots := 0, locals := 107 } : Room)).room s m args below meth c Q g A 6 0 0 (wC g b y S) [some (.ref (b 0)), some (.int x1), some (.int x2), some (.int x3), some (.int x4), some (.int x5)] [] 49 := by
  intro n_
  induction n_ with
  | zero =>
    intro x3 x4 x5 S rv_ hR
    simp [f_X3_ill_L49] at hR
  | succ n_ ih =>
    intro x3 x4 x5 S rv_ hR hk
    rw [f_X3_ill_L49] at hR
    refine g_iconst C dX3_ill_49 2 ic_2 50 rfl ?_
    refine g_iload C dX3_ill_50 rfl 52 rfl ?_
    refine g_imul C dX3_ill_52 53 rfl ?_
    refine g_aload_n C dX3_ill_53 rfl 54 rfl ?_
    refine g_get (v := .int (S.1 30 2)) C (hiC hiA_3) 0 rfl rfl 7 (by decide) (List.mem_cons_of_mem _ wl_23) rfl rfl dX3_ill_54 57 rfl ?_
    refine g_icmp_ge C dX3_ill_57 hR 119 60 (by decide) rfl (fun c_57 hR => ?_) (fun c_57 hR => ?_)
    · obtain rfl := Option.some.inj hR
      refine g_lv [some (.ref (b 0)), some (.int x1), some (.int x2), some (.int x3), some (.int x4), some (.int x5)] (lvLe.sm (lvLe.sm (lvLe.sm (lvLe.sm (lvLe.sm (lvLe.sm lvLe.nil)))))) ?_
      exact hk
    · refine g_iload_n C dX3_ill_60 rfl 61 rfl ?_
      refine g_aload_n C dX3_ill_61 rfl 62 rfl ?_
      refine g_aload_n C dX3_ill_62 rfl 63 rfl ?_
      refine g_get (v := .ref (b 22)) C (hiC hiA_3) 0 rfl rfl 9 (by decide) (List.mem_cons_of_mem _ wl_28) rfl rfl dX3_ill_63 66 rfl ?_
      refine g_getN (v := .int (S.1 34 1)) C (hiC hiA_0) 37 rfl rfl 1 (by decide) (List.mem_of_getElem? (i := 2) rfl) rfl rfl dX3_ill_66 69 rfl ?_
      refine g_aload_n C dX3_ill_69 rfl 70 rfl ?_
      refine g_get (v := .ref (b 20)) C (hiC hiA_3) 0 rfl rfl 6 (by decide) (List.mem_cons_of_mem _ wl_22) rfl rfl dX3_ill_70 73 rfl ?_
      refine g_iconst C dX3_ill_73 2 ic_2 74 rfl ?_
      refine g_iload C dX3_ill_74 rfl 76 rfl ?_
      refine g_imul C dX3_ill_76 77 rfl ?_
      refine g_callIR C (rn_S C (k_X3_at l g (b 20) (S.1 32) 12 (2 * x5) (by decide)) (va_cwS 2 C.1.2.2.2.2 (gdS wl_130 wl_128 wl_129 wl_2) rfl rfl rfl hd_X3_at.2 ⟨Nat.le_of_ble_eq_true rfl, Nat.le_of_ble_eq_true rfl⟩) [35] rfl rfl rfl rfl (Nat.le_of_ble_eq_true rfl) ⟨Nat.zero_le _, Nat.zero_le _⟩ dX3_ill_77) 80 rfl ?_
      refine g_aload_n C dX3_ill_80 rfl 81 rfl ?_
      refine g_get (v := .ref (b 20)) C (hiC hiA_3) 0 rfl rfl 6 (by decide) (List.mem_cons_of_mem _ wl_22) rfl rfl dX3_ill_81 84 rfl ?_
      refine g_iconst C dX3_ill_84 2 ic_2 85 rfl ?_
      refine g_iload C dX3_ill_85 rfl 87 rfl ?_
      refine g_imul C dX3_ill_87 88 rfl ?_
      refine g_iconst C dX3_ill_88 1 ic_1 89 rfl ?_
      refine g_iadd C dX3_ill_89 90 rfl ?_
      refine g_callIR C (rn_S C (k_X3_at l g (b 20) (S.1 32) 12 ((2 * x5) + 1) (by decide)) (va_cwS 2 C.1.2.2.2.2 (gdS wl_130 wl_128 wl_129 wl_2) rfl rfl rfl hd_X3_at.2 ⟨Nat.le_of_ble_eq_true rfl, Nat.le_of_ble_eq_true rfl⟩) [35] rfl rfl rfl rfl (Nat.le_of_ble_eq_true rfl) ⟨Nat.zero_le _, Nat.zero_le _⟩ dX3_ill_90) 93 rfl ?_
      obtain ⟨v5, hv5, hR⟩ := opt_b hR
      refine g_callI C (rn_V C (k_X3_kindsThatFit l g b y S (S.1 34 1) (f_X3_at (S.1 32) 12 (2 * x5)) (f_X3_at (S.1 32) 12 ((2 * x5) + 1)) N_ v5 hv5) (cwV 3 C.1.2.2.2.2 (gdV wl_885 wl_882 wl_883 wl_884 wl_2) rfl rfl rfl hd_X3_kindsThatFit ⟨Nat.le_of_ble_eq_true rfl, Nat.le_of_ble_eq_true rfl⟩) 0 rfl rfl _ rg_C rg_n rfl rfl (Nat.le_of_ble_eq_true rfl) ⟨Nat.zero_le _, Nat.zero_le _⟩ dX3_ill_93) (wC g b y v5.2) (rg_put (wC_len.trans wC_len.symm)) (rg_len (wC_len.trans wC_len.symm)) 96 rfl ?_
      refine g_iand C dX3_ill_96 97 rfl ?_
      refine g_istore_n C dX3_ill_97 [_, _, _, _, _, _] (Nat.le_of_ble_eq_true rfl) rfl rfl 98 rfl ?_
      refine g_iload_n C dX3_ill_98 rfl 99 rfl ?_
      refine g_if_ne C dX3_ill_99 hR 113 102 (by decide) rfl (fun c_99 hR => ?_) (fun c_99 hR => ?_)
      · refine g_iinc C dX3_ill_113 rfl 1 ic_1 [_, _, _, _, _, _] (Nat.le_of_ble_eq_true rfl) rfl rfl 116 rfl ?_
        refine g_goto C dX3_ill_116 49 (by decide) ?_
        refine g_lv [some (.ref (b 0)), some (.int x1), some (.int x2), some (.int (x3 &&& v5.1)), some (.int x4), some (.int (x5 + 1))] (lvLe.sm (lvLe.sm (lvLe.sm (lvLe.sm (lvLe.sm (lvLe.sm lvLe.nil)))))) ?_
        exact ih _ _ _ _ rv_ hR hk
      · refine g_iload C dX3_ill_102 rfl 104 rfl ?_
        refine g_bipush C dX3_ill_104 (-9) bp_m9 106 rfl ?_
        refine g_icmp_ne C dX3_ill_106 hR 113 109 (by decide) rfl (fun c_106 hR => ?_) (fun c_106 hR => ?_)
        · refine g_iinc C dX3_ill_113 rfl 1 ic_1 [_, _, _, _, _, _] (Nat.le_of_ble_eq_true rfl) rfl rfl 116 rfl ?_
          refine g_goto C dX3_ill_116 49 (by decide) ?_
          refine g_lv [some (.ref (b 0)), some (.int x1), some (.int x2), some (.int (x3 &&& v5.1)), some (.int x4), some (.int (x5 + 1))] (lvLe.sm (lvLe.sm (lvLe.sm (lvLe.sm (lvLe.sm (lvLe.sm lvLe.nil)))))) ?_
          exact ih _ _ _ _ rv_ hR hk
        · refine g_iload C dX3_ill_109 rfl 111 rfl ?_
          refine g_istore C dX3_ill_111 [_, _, _, _, _, _] (Nat.le_of_ble_eq_true rfl) rfl rfl 113 rfl ?_
          refine g_iinc C dX3_ill_113 rfl 1 ic_1 [_, _, _, _, _, _] (Nat.le_of_ble_eq_true rfl) rfl rfl 116 rfl ?_
          refine g_goto C dX3_ill_116 49 (by decide) ?_
          refine g_lv [some (.ref (b 0)), some (.int x1), some (.int x2), some (.int (x3 &&& v5.1)), some (.int x5), some (.int (x5 + 1))] (lvLe.sm (lvLe.sm (lvLe.sm (lvLe.sm (lvLe.sm (lvLe.sm lvLe.nil)))))) ?_
          exact ih _ _ _ _ rv_ hR hk
def f_X3_ill (S : (Nat → Nat → Int32) × (Nat → Nat → Int64)) (p0 : Int32) (N_ : Nat) : Option (Int32 × ((Nat → Nat → Int32) × (Nat → Nat → Int64))) :=
  if (f_X3_refusalInHand S true (f_X3_isOneOf p0 2)) = 0 then
    (f_X3_isRowOfPairs S N_).bind fun v1 =>
    if (b2i v1) = 0 then
      some ((f_X3_refuse S (-3)).1, (f_X3_refuse S (-3)).2)
    else
      (f_X3_think S N_).bind fun v2 =>
      (f_X3_ill_L49 N_ N_ 63 (-9) 0 v2).bind fun v6 =>
      if p0 = 0 then
        some (v6.1, v6.2.2.2)
      else
        some (v6.2.1, v6.2.2.2)
  else
    some ((f_X3_refuse S (f_X3_refusalInHand S true (f_X3_isOneOf p0 2))).1, (f_X3_refuse S (f_X3_refusalInHand S true (f_X3_isOneOf p0 2))).2)
set_option maxRecDepth 100000 in
set_option maxHeartbeats 4000000 in
theorem k_X3_ill (l : Launch) (g : gE) (b : Nat → Nat) (y : Nat → Nat → Nat) (S : (Nat → Nat → Int32) × (Nat → Nat → Int64)) (p0 : Int32) (N_ : Nat) (R_ : Int32 × ((Nat → Nat → Int32) × (Nat → Nat → Int64))) (hR : f_X3_ill S p0 N_ = some R_) : FnI l g yX3_ill wA_X3_ill { frames := 5, cells := 0, slots := 0, locals := 107 } [.ref (b 0), .int p0] (wC g b y S) R_.1 (wC g b y R_.2) := by
  refine fEntry (As := [.ref (b 0), .int p0]) (maxL := 6) (ret := (some .int)) (by decide) rfl [some (.ref (b 0)), some (.int p0), none, none, none, none] (Nat.le_of_ble_eq_true rfl) (lvInB.to (lvInB.sm (lvInB.sm (lvInB.nn (lvInB.nn (lvInB.nn (lvInB.nn lvInB.nil))))))) ?_
  intro p e s m below meth c A C hr hlocks hname hA
  have C : Cx p s m _ c g A cX3_ill 6 wA_X3_ill RX3 := C
  rw [f_X3_ill] at hR
  refine g_aload_n C dX3_ill_0 rfl 1 rfl ?_
  refine g_iconst C dX3_ill_1 1 ic_1 2 rfl ?_
  refine g_iload_n C dX3_ill_2 rfl 3 rfl ?_
  refine g_iconst C dX3_ill_3 2 ic_2 4 rfl ?_
  refine g_callIR C (rn_S C (k_X3_isOneOf l g p0 2) (va_cwS 2 C.1.2.2.2.2 (gdS wl_95 wl_93 wl_94 wl_2) rfl rfl rfl hd_X3_isOneOf.2 ⟨Nat.le_of_ble_eq_true rfl, Nat.le_of_ble_eq_true rfl⟩) [] rfl rfl rfl rfl (Nat.le_of_ble_eq_true rfl) ⟨Nat.zero_le _, Nat.zero_le _⟩ dX3_ill_4) 7 rfl ?_
  refine g_callIR C (rn_V C (k_X3_refusalInHand l g b y S true (f_X3_isOneOf p0 2)) (cwV 2 C.1.2.2.2.2 (gdV wl_353 wl_350 wl_351 wl_352 wl_2) rfl rfl rfl hd_X3_refusalInHand ⟨Nat.le_of_ble_eq_true rfl, Nat.le_of_ble_eq_true rfl⟩) 0 rfl rfl _ rg_C rg_n rfl rfl (Nat.le_of_ble_eq_true rfl) ⟨Nat.zero_le _, Nat.zero_le _⟩ dX3_ill_7) 10 rfl ?_
  refine g_istore_n C dX3_ill_10 [_, _, _, _, _, _] (Nat.le_of_ble_eq_true rfl) rfl rfl 11 rfl ?_
  refine g_iload_n C dX3_ill_11 rfl 12 rfl ?_
  refine g_if_ne C dX3_ill_12 hR 25 15 (by decide) rfl (fun c_12 hR => ?_) (fun c_12 hR => ?_)
  · refine g_iload_n C dX3_ill_25 rfl 26 rfl ?_
    refine g_if_eqF C dX3_ill_26 c_12 35 29 (by decide) rfl ?_
    refine g_aload_n C dX3_ill_29 rfl 30 rfl ?_
    refine g_iload_n C dX3_ill_30 rfl 31 rfl ?_
    refine g_callI C (rn_V C (k_X3_refuse l g b y S (f_X3_refusalInHand S true (f_X3_isOneOf p0 2))) (cwV 1 C.1.2.2.2.2 (gdV wl_99 wl_96 wl_97 wl_98 wl_2) rfl rfl rfl hd_X3_refuse ⟨Nat.le_of_ble_eq_true rfl, Nat.le_of_ble_eq_true rfl⟩) 0 rfl rfl _ rg_C rg_n rfl rfl (Nat.le_of_ble_eq_true rfl) ⟨Nat.zero_le _, Nat.zero_le _⟩ dX3_ill_31) (wC g b y ((f_X3_refuse S (f_X3_refusalInHand S true (f_X3_isOneOf p0 2))).2)) (rg_put (wC_len.trans wC_len.symm)) (rg_len (wC_len.trans wC_len.symm)) 34 rfl ?_
    obtain rfl := Option.some.inj hR
    exact g_iret C hr hlocks hA (by first | (dsimp only; done) | rfl) (by first | (dsimp only; done) | rfl) dX3_ill_34
  · refine g_aload_n C dX3_ill_15 rfl 16 rfl ?_
    obtain ⟨v1, hv1, hR⟩ := opt_b hR
    refine g_callIR C (rn_V C (k_X3_isRowOfPairs l g b y S N_ v1 hv1) (cwV 0 C.1.2.2.2.2 (gdV wl_881 wl_878 wl_879 wl_880 wl_2) rfl rfl rfl hd_X3_isRowOfPairs ⟨Nat.le_of_ble_eq_true rfl, Nat.le_of_ble_eq_true rfl⟩) 0 rfl rfl _ rg_C rg_n rfl rfl (Nat.le_of_ble_eq_true rfl) ⟨Nat.zero_le _, Nat.zero_le _⟩ dX3_ill_16) 19 rfl ?_
    refine g_if_ne C dX3_ill_19 hR 25 22 (by decide) rfl (fun c_19 hR => ?_) (fun c_19 hR => ?_)
    · refine g_iload_n C dX3_ill_25 rfl 26 rfl ?_
      refine g_if_eqT C dX3_ill_26 c_12 35 (by decide) ?_
      refine g_aload_n C dX3_ill_35 rfl 36 rfl ?_
      obtain ⟨v2, hv2, hR⟩ := opt_b hR
      refine g_callV C (rn_V C (k_X3_think l g b y S N_ v2 hv2) (cwV 0 C.1.2.2.2.2 (gdV wl_403 wl_400 wl_401 wl_402 wl_2) rfl rfl rfl hd_X3_think ⟨Nat.le_of_ble_eq_true rfl, Nat.le_of_ble_eq_true rfl⟩) 0 rfl rfl _ rg_C rg_n rfl rfl (Nat.le_of_ble_eq_true rfl) ⟨Nat.zero_le _, Nat.zero_le _⟩ dX3_ill_36) (wC g b y v2) (rg_put (wC_len.trans wC_len.symm)) (rg_len (wC_len.trans wC_len.symm)) 39 rfl ?_
      refine g_bipush C dX3_ill_39 63 bp_63 41 rfl ?_
      refine g_istore_n C dX3_ill_41 [_, _, _, _, _, _] (Nat.le_of_ble_eq_true rfl) rfl rfl 42 rfl ?_
      refine g_bipush C dX3_ill_42 (-9) bp_m9 44 rfl ?_
      refine g_istore C dX3_ill_44 [_, _, _, _, _, _] (Nat.le_of_ble_eq_true rfl) rfl rfl 46 rfl ?_
      refine g_iconst C dX3_ill_46 0 ic_0 47 rfl ?_
      refine g_istore C dX3_ill_47 [_, _, _, _, _, _] (Nat.le_of_ble_eq_true rfl) rfl rfl 49 rfl ?_
      refine g_lv [some (.ref (b 0)), some (.int p0), some (.int (f_X3_refusalInHand S true (f_X3_isOneOf p0 2))), some (.int 63), some (.int (-9)), some (.int 0)] (lvLe.sm (lvLe.sm (lvLe.sm (lvLe.sm (lvLe.sm (lvLe.sm lvLe.nil)))))) ?_
      obtain ⟨v6, hv6, hR⟩ := opt_b hR
      refine k_X3_ill_L49 l g C N_ p0 (f_X3_refusalInHand S true (f_X3_isOneOf p0 2)) y N_ 63 (-9) 0 v2 _ hv6 ?_
      refine g_iload_n C dX3_ill_119 rfl 120 rfl ?_
      refine g_if_ne C dX3_ill_120 hR 127 123 (by decide) rfl (fun c_120 hR => ?_) (fun c_120 hR => ?_)
      · refine g_iload C dX3_ill_127 rfl 129 rfl ?_
        obtain rfl := Option.some.inj hR
        exact g_iret C hr hlocks hA (by first | (dsimp only; done) | rfl) (by first | (dsimp only; done) | rfl) dX3_ill_129
      · refine g_iload_n C dX3_ill_123 rfl 124 rfl ?_
        refine g_goto C dX3_ill_124 129 (by decide) ?_
        obtain rfl := Option.some.inj hR
        exact g_iret C hr hlocks hA (by first | (dsimp only; done) | rfl) (by first | (dsimp only; done) | rfl) dX3_ill_129
    · refine g_bipush C dX3_ill_22 (-3) bp_m3 24 rfl ?_
      refine g_istore_n C dX3_ill_24 [_, _, _, _, _, _] (Nat.le_of_ble_eq_true rfl) rfl rfl 25 rfl ?_
      refine g_iload_n C dX3_ill_25 rfl 26 rfl ?_
      refine g_if_eqF C dX3_ill_26 (by decide) 35 29 (by decide) rfl ?_
      refine g_aload_n C dX3_ill_29 rfl 30 rfl ?_
      refine g_iload_n C dX3_ill_30 rfl 31 rfl ?_
      refine g_callI C (rn_V C (k_X3_refuse l g b y S (-3)) (cwV 1 C.1.2.2.2.2 (gdV wl_99 wl_96 wl_97 wl_98 wl_2) rfl rfl rfl hd_X3_refuse ⟨Nat.le_of_ble_eq_true rfl, Nat.le_of_ble_eq_true rfl⟩) 0 rfl rfl _ rg_C rg_n rfl rfl (Nat.le_of_ble_eq_true rfl) ⟨Nat.zero_le _, Nat.zero_le _⟩ dX3_ill_31) (wC g b y ((f_X3_refuse S (-3)).2)) (rg_put (wC_len.trans wC_len.symm)) (rg_len (wC_len.trans wC_len.symm)) 34 rfl ?_
      obtain rfl := Option.some.inj hR
      exact g_iret C hr hlocks hA (by first | (dsimp only; done) | rfl) (by first | (dsimp only; done) | rfl) dX3_ill_34
theorem hd_X3_row : yX3_row.cls = RX3 ∧ yX3_row.cls ≠ "java/lang/invoke/MethodHandle" ∧ yX3_row.cls ≠ "java/lang/invoke/VarHandle" ∧ (parseMethodDescriptor yX3_row.desc).map (fun d => d.parameters.length) = some 1 := by decide +kernel
def f_X3_row (S : (Nat → Nat → Int32) × (Nat → Nat → Int64)) (p0 : Int32) : Int32 × ((Nat → Nat → Int32) × (Nat → Nat → Int64)) :=
  if (f_X3_refusalOutside p0 0 99) = 0 then
    if (b2i (f_X3_isOneOf (S.1 30 2) 12)) = 0 then
      ((f_X3_refuse S (-6)).1, (f_X3_refuse S (-6)).2)
    else
      (((S.1 30 2) + 1), ((kS (kS S.1 30 (upd (S.1 30) 2 ((S.1 30 2) + 1))) 32 (upd (S.1 32) (Int32.toNatClampNeg (S.1 30 2)) p0)), S.2))
  else
    ((f_X3_refuse S (f_X3_refusalOutside p0 0 99)).1, (f_X3_refuse S (f_X3_refusalOutside p0 0 99)).2)
set_option maxRecDepth 100000 in
set_option maxHeartbeats 4000000 in
theorem k_X3_row (l : Launch) (g : gE) (b : Nat → Nat) (y : Nat → Nat → Nat) (S : (Nat → Nat → Int32) × (Nat → Nat → Int64)) (p0 : Int32) : FnI l g yX3_row wA_X3_row { frames := 1, cells := 0, slots := 0, locals := 22 } [.ref (b 0), .int p0] (wC g b y S) ((f_X3_row S p0).1) (wC g b y ((f_X3_row S p0).2)) := by
  generalize hR : f_X3_row S p0 = R_
  refine fEntry (As := [.ref (b 0), .int p0]) (maxL := 3) (ret := (some .int)) (by decide) rfl [some (.ref (b 0)), some (.int p0), none] (Nat.le_of_ble_eq_true rfl) (lvInB.to (lvInB.sm (lvInB.sm (lvInB.nn lvInB.nil)))) ?_
  intro p e s m below meth c A C hr hlocks hname hA
  have C : Cx p s m _ c g A cX3_row 3 wA_X3_row RX3 := C
  rw [f_X3_row] at hR
  refine g_iload_n C dX3_row_0 rfl 1 rfl ?_
  refine g_iconst C dX3_row_1 0 ic_0 2 rfl ?_
  refine g_bipush C dX3_row_2 99 bp_99 4 rfl ?_
  refine g_callIR C (rn_S C (k_X3_refusalOutside l g p0 0 99) (va_cwS 3 C.1.2.2.2.2 (gdS wl_92 wl_90 wl_91 wl_2) rfl rfl rfl hd_X3_refusalOutside.2 ⟨Nat.le_of_ble_eq_true rfl, Nat.le_of_ble_eq_true rfl⟩) [] rfl rfl rfl rfl (Nat.le_of_ble_eq_true rfl) ⟨Nat.zero_le _, Nat.zero_le _⟩ dX3_row_4) 7 rfl ?_
  refine g_istore_n C dX3_row_7 [_, _, _] (Nat.le_of_ble_eq_true rfl) rfl rfl 8 rfl ?_
  refine g_iload_n C dX3_row_8 rfl 9 rfl ?_
  refine g_if_ne C dX3_row_9 hR 30 12 (by decide) rfl (fun c_9 hR => ?_) (fun c_9 hR => ?_)
  · refine g_iload_n C dX3_row_30 rfl 31 rfl ?_
    refine g_if_eqF C dX3_row_31 c_9 40 34 (by decide) rfl ?_
    refine g_aload_n C dX3_row_34 rfl 35 rfl ?_
    refine g_iload_n C dX3_row_35 rfl 36 rfl ?_
    refine g_callI C (rn_V C (k_X3_refuse l g b y S (f_X3_refusalOutside p0 0 99)) (cwV 1 C.1.2.2.2.2 (gdV wl_99 wl_96 wl_97 wl_98 wl_2) rfl rfl rfl hd_X3_refuse ⟨Nat.le_of_ble_eq_true rfl, Nat.le_of_ble_eq_true rfl⟩) 0 rfl rfl _ rg_C rg_n rfl rfl (Nat.le_of_ble_eq_true rfl) ⟨Nat.zero_le _, Nat.zero_le _⟩ dX3_row_36) (wC g b y ((f_X3_refuse S (f_X3_refusalOutside p0 0 99)).2)) (rg_put (wC_len.trans wC_len.symm)) (rg_len (wC_len.trans wC_len.symm)) 39 rfl ?_
    subst hR
    exact g_iret C hr hlocks hA (by first | (dsimp only; done) | rfl) (by first | (dsimp only; done) | rfl) dX3_row_39
  · refine g_aload_n C dX3_row_12 rfl 13 rfl ?_
    refine g_get (v := .int (S.1 30 2)) C (hiC hiA_3) 0 rfl rfl 7 (by decide) (List.mem_cons_of_mem _ wl_23) rfl rfl dX3_row_13 16 rfl ?_
    refine g_aload_n C dX3_row_16 rfl 17 rfl ?_
    refine g_get (v := .ref (b 20)) C (hiC hiA_3) 0 rfl rfl 6 (by decide) (List.mem_cons_of_mem _ wl_22) rfl rfl dX3_row_17 20 rfl ?_
    refine g_alen C 35 0 rfl rfl 12 (show Int32.ofNat 12 = 12 by decide) dX3_row_20 21 rfl ?_
    refine g_callIR C (rn_S C (k_X3_isOneOf l g (S.1 30 2) 12) (va_cwS 2 C.1.2.2.2.2 (gdS wl_95 wl_93 wl_94 wl_2) rfl rfl rfl hd_X3_isOneOf.2 ⟨Nat.le_of_ble_eq_true rfl, Nat.le_of_ble_eq_true rfl⟩) [] rfl rfl rfl rfl (Nat.le_of_ble_eq_true rfl) ⟨Nat.zero_le _, Nat.zero_le _⟩ dX3_row_21) 24 rfl ?_
    refine g_if_ne C dX3_row_24 hR 30 27 (by decide) rfl (fun c_24 hR => ?_) (fun c_24 hR => ?_)
    · refine g_iload_n C dX3_row_30 rfl 31 rfl ?_
      refine g_if_eqT C dX3_row_31 c_9 40 (by decide) ?_
      refine g_aload_n C dX3_row_40 rfl 41 rfl ?_
      refine g_get (v := .ref (b 20)) C (hiC hiA_3) 0 rfl rfl 6 (by decide) (List.mem_cons_of_mem _ wl_22) rfl rfl dX3_row_41 44 rfl ?_
      refine g_aload_n C dX3_row_44 rfl 45 rfl ?_
      refine g_get (v := .int (S.1 30 2)) C (hiC hiA_3) 0 rfl rfl 7 (by decide) (List.mem_cons_of_mem _ wl_23) rfl rfl dX3_row_45 48 rfl ?_
      refine g_iload_n C dX3_row_48 rfl 49 rfl ?_
      refine g_iast (f := (S.1 32)) C 35 rfl (one_in c_24 (by decide)) dX3_row_49 (wC g b y ((kS S.1 32 (upd (S.1 32) (Int32.toNatClampNeg (S.1 30 2)) p0)), S.2)) rfl 50 rfl ?_
      refine g_aload_n C dX3_row_50 rfl 51 rfl ?_
      refine g_dup C dX3_row_51 rfl 52 rfl ?_
      refine g_get (v := .int (S.1 30 2)) C (hiC hiA_3) 0 rfl rfl 7 (by decide) (List.mem_cons_of_mem _ wl_23) rfl rfl dX3_row_52 55 rfl ?_
      refine g_iconst C dX3_row_55 1 ic_1 56 rfl ?_
      refine g_iadd C dX3_row_56 57 rfl ?_
      refine g_put C (hiC hiA_3) tyX3 tyX3_ok nmX3 0 rfl rfl 7 (by decide) (List.mem_cons_of_mem _ wl_23) rfl rfl rfl rfl (Nat.le_of_ble_eq_true rfl) dX3_row_57 (wC g b y ((kS (kS S.1 30 (upd (S.1 30) 2 ((S.1 30 2) + 1))) 32 (upd (S.1 32) (Int32.toNatClampNeg (S.1 30 2)) p0)), S.2)) rfl 60 rfl ?_
      refine g_aload_n C dX3_row_60 rfl 61 rfl ?_
      refine g_get (v := .int ((S.1 30 2) + 1)) C (hiC hiA_3) 0 rfl rfl 7 (by decide) (List.mem_cons_of_mem _ wl_23) rfl rfl dX3_row_61 64 rfl ?_
      subst hR
      exact g_iret C hr hlocks hA (by first | (dsimp only; done) | rfl) (by first | (dsimp only; done) | rfl) dX3_row_64
    · refine g_bipush C dX3_row_27 (-6) bp_m6 29 rfl ?_
      refine g_istore_n C dX3_row_29 [_, _, _] (Nat.le_of_ble_eq_true rfl) rfl rfl 30 rfl ?_
      refine g_iload_n C dX3_row_30 rfl 31 rfl ?_
      refine g_if_eqF C dX3_row_31 (by decide) 40 34 (by decide) rfl ?_
      refine g_aload_n C dX3_row_34 rfl 35 rfl ?_
      refine g_iload_n C dX3_row_35 rfl 36 rfl ?_
      refine g_callI C (rn_V C (k_X3_refuse l g b y S (-6)) (cwV 1 C.1.2.2.2.2 (gdV wl_99 wl_96 wl_97 wl_98 wl_2) rfl rfl rfl hd_X3_refuse ⟨Nat.le_of_ble_eq_true rfl, Nat.le_of_ble_eq_true rfl⟩) 0 rfl rfl _ rg_C rg_n rfl rfl (Nat.le_of_ble_eq_true rfl) ⟨Nat.zero_le _, Nat.zero_le _⟩ dX3_row_36) (wC g b y ((f_X3_refuse S (-6)).2)) (rg_put (wC_len.trans wC_len.symm)) (rg_len (wC_len.trans wC_len.symm)) 39 rfl ?_
      subst hR
      exact g_iret C hr hlocks hA (by first | (dsimp only; done) | rfl) (by first | (dsimp only; done) | rfl) dX3_row_39
theorem hd_X3_judge : yX3_judge.cls = RX3 ∧ yX3_judge.cls ≠ "java/lang/invoke/MethodHandle" ∧ yX3_judge.cls ≠ "java/lang/invoke/VarHandle" ∧ (parseMethodDescriptor yX3_judge.desc).map (fun d => d.parameters.length) = some 0 := by decide +kernel
def f_X3_judge_L37  (N_ : Nat) : Nat → Int32 → Int32 → ((Nat → Nat → Int32) × (Nat → Nat → Int64)) → Option (Int32 × Int32 × ((Nat → Nat → Int32) × (Nat → Nat → Int64)))
  | 0, _, _, _ => none
  | n_ + 1, x2, x3, S =>
    if (S.1 30 2) ≤ x3 then
      some (x2, x3, S)
    else
      if x2 = (-9) then
        if (f_X3_at (S.1 32) 12 x3) = (f_X0_trueStage (S.1 35 3)) then
          f_X3_judge_L37 N_ n_ x2 (x3 + 1) ((kS S.1 35 (upd (S.1 35) 3 (f_X0_gain (S.1 35 3) (24 * (f_X0_coldPoints (S.1 35 0)))))), S.2)
        else
          f_X3_judge_L37 N_ n_ x3 (x3 + 1) ((kS S.1 35 (upd (S.1 35) 3 (f_X0_gain (S.1 35 3) (24 * (f_X0_coldPoints (S.1 35 0)))))), S.2)
      else
        f_X3_judge_L37 N_ n_ x2 (x3 + 1) ((kS S.1 35 (upd (S.1 35) 3 (f_X0_gain (S.1 35 3) (24 * (f_X0_coldPoints (S.1 35 0)))))), S.2)
set_option maxRecDepth 100000 in
set_option maxHeartbeats 4000000 in
theorem k_X3_judge_L37 (l : Launch) (g : gE) {p : Program} {e : Env} {s : State} {m : MethodId} {args : Array Value} {below : List Frame} {meth : Method} {c : Code} {Q : State → Prop} {A : Nat → Prop} {b : Nat → Nat}  (C : Cx p s m args c g A cX3_judge 4 wA_X3_judge RX3) (N_ : Nat) (x1 : Int32) (y : Nat → Nat → Nat) : ∀ (n_ : Nat) (x2 : Int32) (x3 : Int32) (S : (Nat → Nat → Int32) × (Nat → Nat → Int64)) (rv_ : Int32 × Int32 × ((Nat → Nat → Int32) × (Nat → Nat → Int64))), f_X3_judge_L37 N_ n_ x2 x3 S = some rv_ → (Gm p l e (headSpec wA_X3_judge ({ frames := 5, cells := 0, slots := 0, locals := 107 } : Room)).room s m args below meth c Q g A 4 0 0 (wC g b y rv_.2.2) [some (.ref (b 0)), some (.int x1), some (.int rv_.1), some (.int rv_.2.1)] [] 94) → Gm p l e (headSpec wA_X3_judge ({ frames := 5, cells := 0, slots := 0, locals := 107 } : Room)).room s m args below meth c Q g A 4 0 0 (wC g b y S) [some (.ref (b 0)), some (.int x1), some (.int x2), some (.int x3)] [] 37 := by
  intro n_
  induction n_ with
  | zero =>
    intro x2 x3 S rv_ hR
    simp [f_X3_judge_L37] at hR
  | succ n_ ih =>
    intro x2 x3 S rv_ hR hk
    rw [f_X3_judge_L37] at hR
    refine g_iload_n C dX3_judge_37 rfl 38 rfl ?_
    refine g_aload_n C dX3_judge_38 rfl 39 rfl ?_
    refine g_get (v := .int (S.1 30 2)) C (hiC hiA_3) 0 rfl rfl 7 (by decide) (List.mem_cons_of_mem _ wl_23) rfl rfl dX3_judge_39 42 rfl ?_
    refine g_icmp_ge C dX3_judge_42 hR 94 45 (by decide) rfl (fun c_42 hR => ?_) (fun c_42 hR => ?_)
    · obtain rfl := Option.some.inj hR
      refine g_lv [some (.ref (b 0)), some (.int x1), some (.int x2), some (.int x3)] (lvLe.sm (lvLe.sm (lvLe.sm (lvLe.sm lvLe.nil)))) ?_
      exact hk
    · refine g_iload_n C dX3_judge_45 rfl 46 rfl ?_
      refine g_bipush C dX3_judge_46 (-9) bp_m9 48 rfl ?_
      refine g_icmp_ne C dX3_judge_48 hR 71 51 (by decide) rfl (fun c_48 hR => ?_) (fun c_48 hR => ?_)
      · refine g_aload_n C dX3_judge_71 rfl 72 rfl ?_
        refine g_get (v := .ref (b 23)) C (hiC hiA_3) 0 rfl rfl 10 (by decide) (List.mem_cons_of_mem _ wl_29) rfl rfl dX3_judge_72 75 rfl ?_
        refine g_bipush C dX3_judge_75 24 bp_24 77 rfl ?_
        refine g_aload_n C dX3_judge_77 rfl 78 rfl ?_
        refine g_get (v := .ref (b 23)) C (hiC hiA_3) 0 rfl rfl 10 (by decide) (List.mem_cons_of_mem _ wl_29) rfl rfl dX3_judge_78 81 rfl ?_
        refine g_callIR C (rn_VN C (k_X0_coldPoints l g (b 23) (S.1 35 0) (S.1 35 1) (S.1 35 2) (S.1 35 3)) ⟨va_cnB 0 C.1.2.2.2.2 (gdA wl_174) rfl rfl rfl (nst C (List.mem_of_getElem? (i := 10) rfl)) (C.1.2.2.2.2 _ (List.mem_cons_of_mem _ wl_27)) hd_X0_coldPoints.2 ⟨Nat.le_of_ble_eq_true rfl, Nat.le_of_ble_eq_true rfl⟩, C.1.2.2.2.2 _ (List.mem_cons_of_mem _ wl_172), C.1.2.2.2.2 _ (List.mem_cons_of_mem _ wl_173)⟩ 38 rfl rfl [38] rfl rfl rfl rfl (Nat.le_of_ble_eq_true rfl) ⟨Nat.zero_le _, Nat.zero_le _⟩ dX3_judge_81) 84 rfl ?_
        refine g_imul C dX3_judge_84 85 rfl ?_
        refine g_callV C (rn_VN C (k_X0_gain l g (b 23) (S.1 35 0) (S.1 35 1) (S.1 35 2) (S.1 35 3) (24 * (f_X0_coldPoints (S.1 35 0)))) ⟨va_cnB 1 C.1.2.2.2.2 (gdA wl_177) rfl rfl rfl (nst C (List.mem_of_getElem? (i := 13) rfl)) (C.1.2.2.2.2 _ (List.mem_cons_of_mem _ wl_27)) hd_X0_gain.2 ⟨Nat.le_of_ble_eq_true rfl, Nat.le_of_ble_eq_true rfl⟩, C.1.2.2.2.2 _ (List.mem_cons_of_mem _ wl_175), C.1.2.2.2.2 _ (List.mem_cons_of_mem _ wl_176)⟩ 38 rfl rfl [38] rfl rfl rfl rfl (Nat.le_of_ble_eq_true rfl) ⟨Nat.zero_le _, Nat.zero_le _⟩ dX3_judge_85) (wC g b y ((kS S.1 35 (upd (S.1 35) 3 (f_X0_gain (S.1 35 3) (24 * (f_X0_coldPoints (S.1 35 0)))))), S.2)) rfl rfl 88 rfl ?_
        refine g_iinc C dX3_judge_88 rfl 1 ic_1 [_, _, _, _] (Nat.le_of_ble_eq_true rfl) rfl rfl 91 rfl ?_
        refine g_goto C dX3_judge_91 37 (by decide) ?_
        refine g_lv [some (.ref (b 0)), some (.int x1), some (.int x2), some (.int (x3 + 1))] (lvLe.sm (lvLe.sm (lvLe.sm (lvLe.sm lvLe.nil)))) ?_
        exact ih _ _ _ rv_ hR hk
      · refine g_aload_n C dX3_judge_51 rfl 52 rfl ?_
        refine g_get (v := .ref (b 20)) C (hiC hiA_3) 0 rfl rfl 6 (by decide) (List.mem_cons_of_mem _ wl_22) rfl rfl dX3_judge_52 55 rfl ?_
        refine g_iload_n C dX3_judge_55 rfl 56 rfl ?_
        refine g_callIR C (rn_S C (k_X3_at l g (b 20) (S.1 32) 12 x3 (by decide)) (va_cwS 2 C.1.2.2.2.2 (gdS wl_130 wl_128 wl_129 wl_2) rfl rfl rfl hd_X3_at.2 ⟨Nat.le_of_ble_eq_true rfl, Nat.le_of_ble_eq_true rfl⟩) [35] rfl rfl rfl rfl (Nat.le_of_ble_eq_true rfl) ⟨Nat.zero_le _, Nat.zero_le _⟩ dX3_judge_56) 59 rfl ?_
        refine g_aload_n C dX3_judge_59 rfl 60 rfl ?_
        refine g_get (v := .ref (b 23)) C (hiC hiA_3) 0 rfl rfl 10 (by decide) (List.mem_cons_of_mem _ wl_29) rfl rfl dX3_judge_60 63 rfl ?_
        refine g_callIR C (rn_VN C (k_X0_trueStage l g (b 23) (S.1 35 0) (S.1 35 1) (S.1 35 2) (S.1 35 3)) ⟨va_cnB 0 C.1.2.2.2.2 (gdA wl_303) rfl rfl rfl (nst C (List.mem_of_getElem? (i := 9) rfl)) (C.1.2.2.2.2 _ (List.mem_cons_of_mem _ wl_27)) hd_X0_trueStage.2 ⟨Nat.le_of_ble_eq_true rfl, Nat.le_of_ble_eq_true rfl⟩, C.1.2.2.2.2 _ (List.mem_cons_of_mem _ wl_301), C.1.2.2.2.2 _ (List.mem_cons_of_mem _ wl_302)⟩ 38 rfl rfl [38] rfl rfl rfl rfl (Nat.le_of_ble_eq_true rfl) ⟨Nat.zero_le _, Nat.zero_le _⟩ dX3_judge_63) 66 rfl ?_
        refine g_icmp_eq C dX3_judge_66 hR 71 69 (by decide) rfl (fun c_66 hR => ?_) (fun c_66 hR => ?_)
        · refine g_aload_n C dX3_judge_71 rfl 72 rfl ?_
          refine g_get (v := .ref (b 23)) C (hiC hiA_3) 0 rfl rfl 10 (by decide) (List.mem_cons_of_mem _ wl_29) rfl rfl dX3_judge_72 75 rfl ?_
          refine g_bipush C dX3_judge_75 24 bp_24 77 rfl ?_
          refine g_aload_n C dX3_judge_77 rfl 78 rfl ?_
          refine g_get (v := .ref (b 23)) C (hiC hiA_3) 0 rfl rfl 10 (by decide) (List.mem_cons_of_mem _ wl_29) rfl rfl dX3_judge_78 81 rfl ?_
          refine g_callIR C (rn_VN C (k_X0_coldPoints l g (b 23) (S.1 35 0) (S.1 35 1) (S.1 35 2) (S.1 35 3)) ⟨va_cnB 0 C.1.2.2.2.2 (gdA wl_174) rfl rfl rfl (nst C (List.mem_of_getElem? (i := 10) rfl)) (C.1.2.2.2.2 _ (List.mem_cons_of_mem _ wl_27)) hd_X0_coldPoints.2 ⟨Nat.le_of_ble_eq_true rfl, Nat.le_of_ble_eq_true rfl⟩, C.1.2.2.2.2 _ (List.mem_cons_of_mem _ wl_172), C.1.2.2.2.2 _ (List.mem_cons_of_mem _ wl_173)⟩ 38 rfl rfl [38] rfl rfl rfl rfl (Nat.le_of_ble_eq_true rfl) ⟨Nat.zero_le _, Nat.zero_le _⟩ dX3_judge_81) 84 rfl ?_
          refine g_imul C dX3_judge_84 85 rfl ?_
          refine g_callV C (rn_VN C (k_X0_gain l g (b 23) (S.1 35 0) (S.1 35 1) (S.1 35 2) (S.1 35 3) (24 * (f_X0_coldPoints (S.1 35 0)))) ⟨va_cnB 1 C.1.2.2.2.2 (gdA wl_177) rfl rfl rfl (nst C (List.mem_of_getElem? (i := 13) rfl)) (C.1.2.2.2.2 _ (List.mem_cons_of_mem _ wl_27)) hd_X0_gain.2 ⟨Nat.le_of_ble_eq_true rfl, Nat.le_of_ble_eq_true rfl⟩, C.1.2.2.2.2 _ (List.mem_cons_of_mem _ wl_175), C.1.2.2.2.2 _ (List.mem_cons_of_mem _ wl_176)⟩ 38 rfl rfl [38] rfl rfl rfl rfl (Nat.le_of_ble_eq_true rfl) ⟨Nat.zero_le _, Nat.zero_le _⟩ dX3_judge_85) (wC g b y ((kS S.1 35 (upd (S.1 35) 3 (f_X0_gain (S.1 35 3) (24 * (f_X0_coldPoints (S.1 35 0)))))), S.2)) rfl rfl 88 rfl ?_
          refine g_iinc C dX3_judge_88 rfl 1 ic_1 [_, _, _, _] (Nat.le_of_ble_eq_true rfl) rfl rfl 91 rfl ?_
          refine g_goto C dX3_judge_91 37 (by decide) ?_
          refine g_lv [some (.ref (b 0)), some (.int x1), some (.int x2), some (.int (x3 + 1))] (lvLe.sm (lvLe.sm (lvLe.sm (lvLe.sm lvLe.nil)))) ?_
          exact ih _ _ _ rv_ hR hk
        · refine g_iload_n C dX3_judge_69 rfl 70 rfl ?_
          refine g_istore_n C dX3_judge_70 [_, _, _, _] (Nat.le_of_ble_eq_true rfl) rfl rfl 71 rfl ?_
          refine g_aload_n C dX3_judge_71 rfl 72 rfl ?_
          refine g_get (v := .ref (b 23)) C (hiC hiA_3) 0 rfl rfl 10 (by decide) (List.mem_cons_of_mem _ wl_29) rfl rfl dX3_judge_72 75 rfl ?_
          refine g_bipush C dX3_judge_75 24 bp_24 77 rfl ?_
          refine g_aload_n C dX3_judge_77 rfl 78 rfl ?_
          refine g_get (v := .ref (b 23)) C (hiC hiA_3) 0 rfl rfl 10 (by decide) (List.mem_cons_of_mem _ wl_29) rfl rfl dX3_judge_78 81 rfl ?_
          refine g_callIR C (rn_VN C (k_X0_coldPoints l g (b 23) (S.1 35 0) (S.1 35 1) (S.1 35 2) (S.1 35 3)) ⟨va_cnB 0 C.1.2.2.2.2 (gdA wl_174) rfl rfl rfl (nst C (List.mem_of_getElem? (i := 10) rfl)) (C.1.2.2.2.2 _ (List.mem_cons_of_mem _ wl_27)) hd_X0_coldPoints.2 ⟨Nat.le_of_ble_eq_true rfl, Nat.le_of_ble_eq_true rfl⟩, C.1.2.2.2.2 _ (List.mem_cons_of_mem _ wl_172), C.1.2.2.2.2 _ (List.mem_cons_of_mem _ wl_173)⟩ 38 rfl rfl [38] rfl rfl rfl rfl (Nat.le_of_ble_eq_true rfl) ⟨Nat.zero_le _, Nat.zero_le _⟩ dX3_judge_81) 84 rfl ?_
          refine g_imul C dX3_judge_84 85 rfl ?_
          refine g_callV C (rn_VN C (k_X0_gain l g (b 23) (S.1 35 0) (S.1 35 1) (S.1 35 2) (S.1 35 3) (24 * (f_X0_coldPoints (S.1 35 0)))) ⟨va_cnB 1 C.1.2.2.2.2 (gdA wl_177) rfl rfl rfl (nst C (List.mem_of_getElem? (i := 13) rfl)) (C.1.2.2.2.2 _ (List.mem_cons_of_mem _ wl_27)) hd_X0_gain.2 ⟨Nat.le_of_ble_eq_true rfl, Nat.le_of_ble_eq_true rfl⟩, C.1.2.2.2.2 _ (List.mem_cons_of_mem _ wl_175), C.1.2.2.2.2 _ (List.mem_cons_of_mem _ wl_176)⟩ 38 rfl rfl [38] rfl rfl rfl rfl (Nat.le_of_ble_eq_true rfl) ⟨Nat.zero_le _, Nat.zero_le _⟩ dX3_judge_85) (wC g b y ((kS S.1 35 (upd (S.1 35) 3 (f_X0_gain (S.1 35 3) (24 * (f_X0_coldPoints (S.1 35 0)))))), S.2)) rfl rfl 88 rfl ?_
          refine g_iinc C dX3_judge_88 rfl 1 ic_1 [_, _, _, _] (Nat.le_of_ble_eq_true rfl) rfl rfl 91 rfl ?_
          refine g_goto C dX3_judge_91 37 (by decide) ?_
          refine g_lv [some (.ref (b 0)), some (.int x1), some (.int x3), some (.int (x3 + 1))] (lvLe.sm (lvLe.sm (lvLe.sm (lvLe.sm lvLe.nil)))) ?_
          exact ih _ _ _ rv_ hR hk
def f_X3_judge (S : (Nat → Nat → Int32) × (Nat → Nat → Int64)) (N_ : Nat) : Option (Int32 × ((Nat → Nat → Int32) × (Nat → Nat → Int64))) :=
  if (f_X3_refusalInHand S true true) = 0 then
    (f_X3_think S N_).bind fun v1 =>
    (f_X3_judge_L37 N_ N_ (-9) 0 ((kS v1.1 35 (upd (upd (upd (upd (v1.1 35) 0 ((f_X0_fillFrom (v1.1 34 0) (v1.1 34 1) (v1.1 34 2) (v1.1 34 3)).1)) 1 ((f_X0_fillFrom (v1.1 34 0) (v1.1 34 1) (v1.1 34 2) (v1.1 34 3)).2.1)) 2 ((f_X0_fillFrom (v1.1 34 0) (v1.1 34 1) (v1.1 34 2) (v1.1 34 3)).2.2.1)) 3 ((f_X0_fillFrom (v1.1 34 0) (v1.1 34 1) (v1.1 34 2) (v1.1 34 3)).2.2.2))), v1.2)).bind fun v2 =>
    some (v2.1, ((kS v2.2.2.1 30 (upd (v2.2.2.1 30) 2 0)), v2.2.2.2))
  else
    some ((f_X3_refuse S (f_X3_refusalInHand S true true)).1, (f_X3_refuse S (f_X3_refusalInHand S true true)).2)
set_option maxRecDepth 100000 in
set_option maxHeartbeats 4000000 in
theorem k_X3_judge (l : Launch) (g : gE) (b : Nat → Nat) (y : Nat → Nat → Nat) (S : (Nat → Nat → Int32) × (Nat → Nat → Int64)) (N_ : Nat) (R_ : Int32 × ((Nat → Nat → Int32) × (Nat → Nat → Int64))) (hR : f_X3_judge S N_ = some R_) : FnI l g yX3_judge wA_X3_judge { frames := 5, cells := 0, slots := 0, locals := 107 } [.ref (b 0)] (wC g b y S) R_.1 (wC g b y R_.2) := by
  refine fEntry (As := [.ref (b 0)]) (maxL := 4) (ret := (some .int)) (by decide) rfl [some (.ref (b 0)), none, none, none] (Nat.le_of_ble_eq_true rfl) (lvInB.to (lvInB.sm (lvInB.nn (lvInB.nn (lvInB.nn lvInB.nil))))) ?_
  intro p e s m below meth c A C hr hlocks hname hA
  have C : Cx p s m _ c g A cX3_judge 4 wA_X3_judge RX3 := C
  rw [f_X3_judge] at hR
  refine g_aload_n C dX3_judge_0 rfl 1 rfl ?_
  refine g_iconst C dX3_judge_1 1 ic_1 2 rfl ?_
  refine g_iconst C dX3_judge_2 1 ic_1 3 rfl ?_
  refine g_callIR C (rn_V C (k_X3_refusalInHand l g b y S true true) (cwV 2 C.1.2.2.2.2 (gdV wl_353 wl_350 wl_351 wl_352 wl_2) rfl rfl rfl hd_X3_refusalInHand ⟨Nat.le_of_ble_eq_true rfl, Nat.le_of_ble_eq_true rfl⟩) 0 rfl rfl _ rg_C rg_n rfl rfl (Nat.le_of_ble_eq_true rfl) ⟨Nat.zero_le _, Nat.zero_le _⟩ dX3_judge_3) 6 rfl ?_
  refine g_istore_n C dX3_judge_6 [_, _, _, _] (Nat.le_of_ble_eq_true rfl) rfl rfl 7 rfl ?_
  refine g_iload_n C dX3_judge_7 rfl 8 rfl ?_
  refine g_if_eq C dX3_judge_8 hR 17 11 (by decide) rfl (fun c_8 hR => ?_) (fun c_8 hR => ?_)
  · refine g_aload_n C dX3_judge_17 rfl 18 rfl ?_
    obtain ⟨v1, hv1, hR⟩ := opt_b hR
    refine g_callV C (rn_V C (k_X3_think l g b y S N_ v1 hv1) (cwV 0 C.1.2.2.2.2 (gdV wl_403 wl_400 wl_401 wl_402 wl_2) rfl rfl rfl hd_X3_think ⟨Nat.le_of_ble_eq_true rfl, Nat.le_of_ble_eq_true rfl⟩) 0 rfl rfl _ rg_C rg_n rfl rfl (Nat.le_of_ble_eq_true rfl) ⟨Nat.zero_le _, Nat.zero_le _⟩ dX3_judge_18) (wC g b y v1) (rg_put (wC_len.trans wC_len.symm)) (rg_len (wC_len.trans wC_len.symm)) 21 rfl ?_
    refine g_aload_n C dX3_judge_21 rfl 22 rfl ?_
    refine g_get (v := .ref (b 23)) C (hiC hiA_3) 0 rfl rfl 10 (by decide) (List.mem_cons_of_mem _ wl_29) rfl rfl dX3_judge_22 25 rfl ?_
    refine g_aload_n C dX3_judge_25 rfl 26 rfl ?_
    refine g_get (v := .ref (b 22)) C (hiC hiA_3) 0 rfl rfl 9 (by decide) (List.mem_cons_of_mem _ wl_28) rfl rfl dX3_judge_26 29 rfl ?_
    refine g_callV C (rn_VN C (k_X0_fillFrom l g (b 23) (b 22) (v1.1 35 0) (v1.1 35 1) (v1.1 35 2) (v1.1 35 3) (v1.1 34 0) (v1.1 34 1) (v1.1 34 2) (v1.1 34 3)) ⟨va_cnB 1 C.1.2.2.2.2 (gdA wl_146) rfl rfl rfl (nst C (List.mem_of_getElem? (i := 21) rfl)) (C.1.2.2.2.2 _ (List.mem_cons_of_mem _ wl_27)) hd_X0_fillFrom.2 ⟨Nat.le_of_ble_eq_true rfl, Nat.le_of_ble_eq_true rfl⟩, C.1.2.2.2.2 _ (List.mem_cons_of_mem _ wl_144), C.1.2.2.2.2 _ (List.mem_cons_of_mem _ wl_145)⟩ 38 rfl rfl [38, 37] rfl rfl rfl rfl (Nat.le_of_ble_eq_true rfl) ⟨Nat.zero_le _, Nat.zero_le _⟩ dX3_judge_29) (wC g b y ((kS v1.1 35 (upd (upd (upd (upd (v1.1 35) 0 ((f_X0_fillFrom (v1.1 34 0) (v1.1 34 1) (v1.1 34 2) (v1.1 34 3)).1)) 1 ((f_X0_fillFrom (v1.1 34 0) (v1.1 34 1) (v1.1 34 2) (v1.1 34 3)).2.1)) 2 ((f_X0_fillFrom (v1.1 34 0) (v1.1 34 1) (v1.1 34 2) (v1.1 34 3)).2.2.1)) 3 ((f_X0_fillFrom (v1.1 34 0) (v1.1 34 1) (v1.1 34 2) (v1.1 34 3)).2.2.2))), v1.2)) rfl rfl 32 rfl ?_
    refine g_bipush C dX3_judge_32 (-9) bp_m9 34 rfl ?_
    refine g_istore_n C dX3_judge_34 [_, _, _, _] (Nat.le_of_ble_eq_true rfl) rfl rfl 35 rfl ?_
    refine g_iconst C dX3_judge_35 0 ic_0 36 rfl ?_
    refine g_istore_n C dX3_judge_36 [_, _, _, _] (Nat.le_of_ble_eq_true rfl) rfl rfl 37 rfl ?_
    refine g_lv [some (.ref (b 0)), some (.int (f_X3_refusalInHand S true true)), some (.int (-9)), some (.int 0)] (lvLe.sm (lvLe.sm (lvLe.sm (lvLe.sm lvLe.nil)))) ?_
    obtain ⟨v2, hv2, hR⟩ := opt_b hR
    refine k_X3_judge_L37 l g C N_ (f_X3_refusalInHand S true true) y N_ (-9) 0 ((kS v1.1 35 (upd (upd (upd (upd (v1.1 35) 0 ((f_X0_fillFrom (v1.1 34 0) (v1.1 34 1) (v1.1 34 2) (v1.1 34 3)).1)) 1 ((f_X0_fillFrom (v1.1 34 0) (v1.1 34 1) (v1.1 34 2) (v1.1 34 3)).2.1)) 2 ((f_X0_fillFrom (v1.1 34 0) (v1.1 34 1) (v1.1 34 2) (v1.1 34 3)).2.2.1)) 3 ((f_X0_fillFrom (v1.1 34 0) (v1.1 34 1) (v1.1 34 2) (v1.1 34 3)).2.2.2))), v1.2) _ hv2 ?_
    refine g_aload_n C dX3_judge_94 rfl 95 rfl ?_
    refine g_iconst C dX3_judge_95 0 ic_0 96 rfl ?_
    refine g_put C (hiC hiA_3) tyX3 tyX3_ok nmX3 0 rfl rfl 7 (by decide) (List.mem_cons_of_mem _ wl_23) rfl rfl rfl rfl (Nat.le_of_ble_eq_true rfl) dX3_judge_96 (wC g b y ((kS v2.2.2.1 30 (upd (v2.2.2.1 30) 2 0)), v2.2.2.2)) rfl 99 rfl ?_
    refine g_iload_n C dX3_judge_99 rfl 100 rfl ?_
    obtain rfl := Option.some.inj hR
    exact g_iret C hr hlocks hA (by first | (dsimp only; done) | rfl) (by first | (dsimp only; done) | rfl) dX3_judge_100
  · refine g_aload_n C dX3_judge_11 rfl 12 rfl ?_
    refine g_iload_n C dX3_judge_12 rfl 13 rfl ?_
    refine g_callI C (rn_V C (k_X3_refuse l g b y S (f_X3_refusalInHand S true true)) (cwV 1 C.1.2.2.2.2 (gdV wl_99 wl_96 wl_97 wl_98 wl_2) rfl rfl rfl hd_X3_refuse ⟨Nat.le_of_ble_eq_true rfl, Nat.le_of_ble_eq_true rfl⟩) 0 rfl rfl _ rg_C rg_n rfl rfl (Nat.le_of_ble_eq_true rfl) ⟨Nat.zero_le _, Nat.zero_le _⟩ dX3_judge_13) (wC g b y ((f_X3_refuse S (f_X3_refusalInHand S true true)).2)) (rg_put (wC_len.trans wC_len.symm)) (rg_len (wC_len.trans wC_len.symm)) 16 rfl ?_
    obtain rfl := Option.some.inj hR
    exact g_iret C hr hlocks hA (by first | (dsimp only; done) | rfl) (by first | (dsimp only; done) | rfl) dX3_judge_16
theorem hd_X3_clear : yX3_clear.cls = RX3 ∧ yX3_clear.cls ≠ "java/lang/invoke/MethodHandle" ∧ yX3_clear.cls ≠ "java/lang/invoke/VarHandle" ∧ (parseMethodDescriptor yX3_clear.desc).map (fun d => d.parameters.length) = some 0 := by decide +kernel
def f_X3_clear (S : (Nat → Nat → Int32) × (Nat → Nat → Int64)) : Int32 × ((Nat → Nat → Int32) × (Nat → Nat → Int64)) :=
  ((S.1 30 2), ((kS S.1 30 (upd (S.1 30) 2 0)), S.2))
set_option maxRecDepth 100000 in
set_option maxHeartbeats 4000000 in
theorem k_X3_clear (l : Launch) (g : gE) (b : Nat → Nat) (y : Nat → Nat → Nat) (S : (Nat → Nat → Int32) × (Nat → Nat → Int64)) : FnI l g yX3_clear wA_X3_clear { frames := 0, cells := 0, slots := 0, locals := 0 } [.ref (b 0)] (wC g b y S) ((f_X3_clear S).1) (wC g b y ((f_X3_clear S).2)) := by
  generalize hR : f_X3_clear S = R_
  refine fEntry (As := [.ref (b 0)]) (maxL := 2) (ret := (some .int)) (by decide) rfl [some (.ref (b 0)), none] (Nat.le_of_ble_eq_true rfl) (lvInB.to (lvInB.sm (lvInB.nn lvInB.nil))) ?_
  intro p e s m below meth c A C hr hlocks hname hA
  have C : Cx p s m _ c g A cX3_clear 2 wA_X3_clear RX3 := C
  rw [f_X3_clear] at hR
  refine g_aload_n C dX3_clear_0 rfl 1 rfl ?_
  refine g_get (v := .int (S.1 30 2)) C (hiC hiA_3) 0 rfl rfl 7 (by decide) (List.mem_cons_of_mem _ wl_23) rfl rfl dX3_clear_1 4 rfl ?_
  refine g_istore_n C dX3_clear_4 [_, _] (Nat.le_of_ble_eq_true rfl) rfl rfl 5 rfl ?_
  refine g_aload_n C dX3_clear_5 rfl 6 rfl ?_
  refine g_iconst C dX3_clear_6 0 ic_0 7 rfl ?_
  refine g_put C (hiC hiA_3) tyX3 tyX3_ok nmX3 0 rfl rfl 7 (by decide) (List.mem_cons_of_mem _ wl_23) rfl rfl rfl rfl (Nat.le_of_ble_eq_true rfl) dX3_clear_7 (wC g b y ((kS S.1 30 (upd (S.1 30) 2 0)), S.2)) rfl 10 rfl ?_
  refine g_iload_n C dX3_clear_10 rfl 11 rfl ?_
  subst hR
  exact g_iret C hr hlocks hA (by first | (dsimp only; done) | rfl) (by first | (dsimp only; done) | rfl) dX3_clear_11
theorem hd_X3_seeds : yX3_seeds.cls = RX3 ∧ yX3_seeds.cls ≠ "java/lang/invoke/MethodHandle" ∧ yX3_seeds.cls ≠ "java/lang/invoke/VarHandle" ∧ (parseMethodDescriptor yX3_seeds.desc).map (fun d => d.parameters.length) = some 4 := by decide +kernel
def f_X3_seeds_L95 (x1 : Int32) (N_ : Nat) : Nat → Int32 → Int32 → Int32 → ((Nat → Nat → Int32) × (Nat → Nat → Int64)) → Option (Int32 × Int32 × Int32 × ((Nat → Nat → Int32) × (Nat → Nat → Int64)))
  | 0, _, _, _, _ => none
  | n_ + 1, x6, x10, x11, S =>
    if 7 ≤ x11 then
      some (x6, x10, x11, S)
    else
      if x10 = 0 then
        (f_X3_draw (f_X3_nextSeed x6) 7 N_).bind fun v8 =>
        (f_X2_weigh (S.2 1) (S.1 35 0) (f_X0_gain (S.1 35 3) ((v8 * (f_X0_warmPoints (S.1 35 0) (S.1 35 1))) + ((24 - v8) * (f_X0_coldPoints (S.1 35 0))))) N_).bind fun v9 =>
        (f_X1_bestUse (S.1 0 3) v9 x1 N_).bind fun v10 =>
        f_X3_seeds_L95 x1 N_ n_ (f_X3_nextSeed x6) v10 (x11 + 1) ((kS S.1 35 (upd (S.1 35) 3 (f_X0_gain (S.1 35 3) ((v8 * (f_X0_warmPoints (S.1 35 0) (S.1 35 1))) + ((24 - v8) * (f_X0_coldPoints (S.1 35 0))))))), (kLS S.2 1 v9))
      else
        some (x6, x10, x11, S)
set_option maxRecDepth 100000 in
set_option maxHeartbeats 4000000 in
theorem k_X3_seeds_L95 (l : Launch) (g : gE) {p : Program} {e : Env} {s : State} {m : MethodId} {args : Array Value} {below : List Frame} {meth : Method} {c : Code} {Q : State → Prop} {A : Nat → Prop} {b : Nat → Nat}  (C : Cx p s m args c g A cX3_seeds 13 wA_X3_seeds RX3) (N_ : Nat) (x1 : Int32) (x2 : Int32) (x3 : Int32) (x4 : Int32) (x5 : Int32) (x7 : Int32) (x8 : Int32) (x9 : Int32) (y : Nat → Nat → Nat) : ∀ (n_ : Nat) (x6 : Int32) (x10 : Int32) (x11 : Int32) (S : (Nat → Nat → Int32) × (Nat → Nat → Int64)) (rv_ : Int32 × Int32 × Int32 × ((Nat → Nat → Int32) × (Nat → Nat → Int64))), f_X3_seeds_L95 x1 N_ n_ x6 x10 x11 S = some rv_ → (Gm p l e (headSpec wA_X3_seeds ({ frames := 5, cells := 0, slots := 0, locals := 107 } : Room)).room s m args below meth c Q g A 13 0 0 (wC g b y rv_.2.2.2) [some (.ref (b 0)), some (.int x1), some (.int x2), some (.int x3), some (.int x4), some (.int x5), some (.int rv_.1), some (.int x7), some (.int x8), some (.int x9), some (.int rv_.2.1), some (.int rv_.2.2.1), none] [] 185) → Gm p l e (headSpec wA_X3_seeds ({ frames := 5, cells := 0, slots := 0, locals := 107 } : Room)).room s m args below meth c Q g A 13 0 0 (wC g b y S) [some (.ref (b 0)), some (.int x1), some (.int x2), some (.int x3), some (.int x4), some (.int x5), some (.int x6), some (.int x7), some (.int x8), some (.int x9), some (.int x10), some (.int x11), none] [] 95 := by
  intro n_
  induction n_ with
  | zero =>
    intro x6 x10 x11 S rv_ hR
    simp [f_X3_seeds_L95] at hR
  | succ n_ ih =>
    intro x6 x10 x11 S rv_ hR hk
    rw [f_X3_seeds_L95] at hR
    refine g_iload C dX3_seeds_95 rfl 97 rfl ?_
    refine g_bipush C dX3_seeds_97 7 bp_7 99 rfl ?_
    refine g_icmp_ge C dX3_seeds_99 hR 185 102 (by decide) rfl (fun c_99 hR => ?_) (fun c_99 hR => ?_)
    · obtain rfl := Option.some.inj hR
      refine g_lv [some (.ref (b 0)), some (.int x1), some (.int x2), some (.int x3), some (.int x4), some (.int x5), some (.int x6), some (.int x7), some (.int x8), some (.int x9), some (.int x10), some (.int x11), none] (lvLe.sm (lvLe.sm (lvLe.sm (lvLe.sm (lvLe.sm (lvLe.sm (lvLe.sm (lvLe.sm (lvLe.sm (lvLe.sm (lvLe.sm (lvLe.sm (lvLe.nn lvLe.nil))))))))))))) ?_
      exact hk
    · refine g_iload C dX3_seeds_102 rfl 104 rfl ?_
      refine g_if_ne C dX3_seeds_104 hR 185 107 (by decide) rfl (fun c_104 hR => ?_) (fun c_104 hR => ?_)
      · obtain rfl := Option.some.inj hR
        refine g_lv [some (.ref (b 0)), some (.int x1), some (.int x2), some (.int x3), some (.int x4), some (.int x5), some (.int x6), some (.int x7), some (.int x8), some (.int x9), some (.int x10), some (.int x11), none] (lvLe.sm (lvLe.sm (lvLe.sm (lvLe.sm (lvLe.sm (lvLe.sm (lvLe.sm (lvLe.sm (lvLe.sm (lvLe.sm (lvLe.sm (lvLe.sm (lvLe.nn lvLe.nil))))))))))))) ?_
        exact hk
      · refine g_iload C dX3_seeds_107 rfl 109 rfl ?_
        refine g_callIR C (rn_S C (k_X3_nextSeed l g x6) (va_cwS 1 C.1.2.2.2.2 (gdS wl_928 wl_926 wl_927 wl_2) rfl rfl rfl hd_X3_nextSeed.2 ⟨Nat.le_of_ble_eq_true rfl, Nat.le_of_ble_eq_true rfl⟩) [] rfl rfl rfl rfl (Nat.le_of_ble_eq_true rfl) ⟨Nat.zero_le _, Nat.zero_le _⟩ dX3_seeds_109) 112 rfl ?_
        refine g_istore C dX3_seeds_112 [_, _, _, _, _, _, _, _, _, _, _, _, _] (Nat.le_of_ble_eq_true rfl) rfl rfl 114 rfl ?_
        refine g_iload C dX3_seeds_114 rfl 116 rfl ?_
        refine g_bipush C dX3_seeds_116 7 bp_7 118 rfl ?_
        obtain ⟨v8, hv8, hR⟩ := opt_b hR
        refine g_callIR C (rn_S C (k_X3_draw l g (f_X3_nextSeed x6) 7 N_ v8 hv8) (va_cwS 2 C.1.2.2.2.2 (gdS wl_932 wl_930 wl_931 wl_2) rfl rfl rfl hd_X3_draw.2 ⟨Nat.le_of_ble_eq_true rfl, Nat.le_of_ble_eq_true rfl⟩) [] rfl rfl rfl rfl (Nat.le_of_ble_eq_true rfl) ⟨Nat.zero_le _, Nat.zero_le _⟩ dX3_seeds_118) 121 rfl ?_
        refine g_istore C dX3_seeds_121 [_, _, _, _, _, _, _, _, _, _, _, _, _] (Nat.le_of_ble_eq_true rfl) rfl rfl 123 rfl ?_
        refine g_aload_n C dX3_seeds_123 rfl 124 rfl ?_
        refine g_get (v := .ref (b 23)) C (hiC hiA_3) 0 rfl rfl 10 (by decide) (List.mem_cons_of_mem _ wl_29) rfl rfl dX3_seeds_124 127 rfl ?_
        refine g_iload C dX3_seeds_127 rfl 129 rfl ?_
        refine g_aload_n C dX3_seeds_129 rfl 130 rfl ?_
        refine g_get (v := .ref (b 23)) C (hiC hiA_3) 0 rfl rfl 10 (by decide) (List.mem_cons_of_mem _ wl_29) rfl rfl dX3_seeds_130 133 rfl ?_
        refine g_callIR C (rn_VN C (k_X0_warmPoints l g (b 23) (S.1 35 0) (S.1 35 1) (S.1 35 2) (S.1 35 3)) ⟨va_cnB 0 C.1.2.2.2.2 (gdA wl_186) rfl rfl rfl (nst C (List.mem_of_getElem? (i := 11) rfl)) (C.1.2.2.2.2 _ (List.mem_cons_of_mem _ wl_27)) hd_X0_warmPoints.2 ⟨Nat.le_of_ble_eq_true rfl, Nat.le_of_ble_eq_true rfl⟩, C.1.2.2.2.2 _ (List.mem_cons_of_mem _ wl_184), C.1.2.2.2.2 _ (List.mem_cons_of_mem _ wl_185)⟩ 38 rfl rfl [38] rfl rfl rfl rfl (Nat.le_of_ble_eq_true rfl) ⟨Nat.zero_le _, Nat.zero_le _⟩ dX3_seeds_133) 136 rfl ?_
        refine g_imul C dX3_seeds_136 137 rfl ?_
        refine g_bipush C dX3_seeds_137 24 bp_24 139 rfl ?_
        refine g_iload C dX3_seeds_139 rfl 141 rfl ?_
        refine g_isub C dX3_seeds_141 142 rfl ?_
        refine g_aload_n C dX3_seeds_142 rfl 143 rfl ?_
        refine g_get (v := .ref (b 23)) C (hiC hiA_3) 0 rfl rfl 10 (by decide) (List.mem_cons_of_mem _ wl_29) rfl rfl dX3_seeds_143 146 rfl ?_
        refine g_callIR C (rn_VN C (k_X0_coldPoints l g (b 23) (S.1 35 0) (S.1 35 1) (S.1 35 2) (S.1 35 3)) ⟨va_cnB 0 C.1.2.2.2.2 (gdA wl_174) rfl rfl rfl (nst C (List.mem_of_getElem? (i := 10) rfl)) (C.1.2.2.2.2 _ (List.mem_cons_of_mem _ wl_27)) hd_X0_coldPoints.2 ⟨Nat.le_of_ble_eq_true rfl, Nat.le_of_ble_eq_true rfl⟩, C.1.2.2.2.2 _ (List.mem_cons_of_mem _ wl_172), C.1.2.2.2.2 _ (List.mem_cons_of_mem _ wl_173)⟩ 38 rfl rfl [38] rfl rfl rfl rfl (Nat.le_of_ble_eq_true rfl) ⟨Nat.zero_le _, Nat.zero_le _⟩ dX3_seeds_146) 149 rfl ?_
        refine g_imul C dX3_seeds_149 150 rfl ?_
        refine g_iadd C dX3_seeds_150 151 rfl ?_
        refine g_callV C (rn_VN C (k_X0_gain l g (b 23) (S.1 35 0) (S.1 35 1) (S.1 35 2) (S.1 35 3) ((v8 * (f_X0_warmPoints (S.1 35 0) (S.1 35 1))) + ((24 - v8) * (f_X0_coldPoints (S.1 35 0))))) ⟨va_cnB 1 C.1.2.2.2.2 (gdA wl_177) rfl rfl rfl (nst C (List.mem_of_getElem? (i := 13) rfl)) (C.1.2.2.2.2 _ (List.mem_cons_of_mem _ wl_27)) hd_X0_gain.2 ⟨Nat.le_of_ble_eq_true rfl, Nat.le_of_ble_eq_true rfl⟩, C.1.2.2.2.2 _ (List.mem_cons_of_mem _ wl_175), C.1.2.2.2.2 _ (List.mem_cons_of_mem _ wl_176)⟩ 38 rfl rfl [38] rfl rfl rfl rfl (Nat.le_of_ble_eq_true rfl) ⟨Nat.zero_le _, Nat.zero_le _⟩ dX3_seeds_151) (wC g b y ((kS S.1 35 (upd (S.1 35) 3 (f_X0_gain (S.1 35 3) ((v8 * (f_X0_warmPoints (S.1 35 0) (S.1 35 1))) + ((24 - v8) * (f_X0_coldPoints (S.1 35 0))))))), S.2)) rfl rfl 154 rfl ?_
        refine g_aload_n C dX3_seeds_154 rfl 155 rfl ?_
        refine g_get (v := .ref (b 25)) C (hiC hiA_3) 0 rfl rfl 12 (by decide) (List.mem_cons_of_mem _ wl_34) rfl rfl dX3_seeds_155 158 rfl ?_
        refine g_aload_n C dX3_seeds_158 rfl 159 rfl ?_
        refine g_get (v := .ref (b 23)) C (hiC hiA_3) 0 rfl rfl 10 (by decide) (List.mem_cons_of_mem _ wl_29) rfl rfl dX3_seeds_159 162 rfl ?_
        obtain ⟨v9, hv9, hR⟩ := opt_b hR
        refine g_callV C (rn_VN C (k_X2_weigh l g (b 25) (b 28) (b 23) (S.2 1) (S.1 35 0) (S.1 35 1) (S.1 35 2) (f_X0_gain (S.1 35 3) ((v8 * (f_X0_warmPoints (S.1 35 0) (S.1 35 1))) + ((24 - v8) * (f_X0_coldPoints (S.1 35 0))))) N_ v9 hv9) ⟨va_cnB 1 C.1.2.2.2.2 (gdA wl_406) rfl rfl rfl (nst C (List.mem_of_getElem? (i := 22) rfl)) (C.1.2.2.2.2 _ (List.mem_cons_of_mem _ wl_32)) hd_X2_weigh.2 ⟨Nat.le_of_ble_eq_true rfl, Nat.le_of_ble_eq_true rfl⟩, C.1.2.2.2.2 _ (List.mem_cons_of_mem _ wl_404), C.1.2.2.2.2 _ (List.mem_cons_of_mem _ wl_405)⟩ 40 rfl rfl [40, 43, 38] rfl rfl rfl rfl (Nat.le_of_ble_eq_true rfl) ⟨Nat.zero_le _, Nat.zero_le _⟩ dX3_seeds_162) (wC g b y ((kS S.1 35 (upd (S.1 35) 3 (f_X0_gain (S.1 35 3) ((v8 * (f_X0_warmPoints (S.1 35 0) (S.1 35 1))) + ((24 - v8) * (f_X0_coldPoints (S.1 35 0))))))), (kLS S.2 1 v9))) rfl rfl 165 rfl ?_
        refine g_aload_n C dX3_seeds_165 rfl 166 rfl ?_
        refine g_get (v := .ref (b 1)) C (hiC hiA_3) 0 rfl rfl 0 (by decide) (List.mem_cons_of_mem _ wl_15) rfl rfl dX3_seeds_166 169 rfl ?_
        refine g_iload_n C dX3_seeds_169 rfl 170 rfl ?_
        refine g_aload_n C dX3_seeds_170 rfl 171 rfl ?_
        refine g_get (v := .ref (b 25)) C (hiC hiA_3) 0 rfl rfl 12 (by decide) (List.mem_cons_of_mem _ wl_34) rfl rfl dX3_seeds_171 174 rfl ?_
        obtain ⟨v10, hv10, hR⟩ := opt_b hR
        refine g_callIR C (rn_VN C (k_X1_bestUse l g (b 1) (b 2) (b 3) (b 4) (b 5) (b 6) (b 25) (b 28) (S.1 0 0) (S.1 0 1) (S.1 0 2) (S.1 0 3) (S.1 0 4) v9 x1 N_ v10 hv10) ⟨va_cnB 2 C.1.2.2.2.2 (gdA wl_549) rfl rfl rfl (nst C (List.mem_of_getElem? (i := 20) rfl)) (C.1.2.2.2.2 _ (List.mem_cons_of_mem _ wl_14)) hd_X1_bestUse.2 ⟨Nat.le_of_ble_eq_true rfl, Nat.le_of_ble_eq_true rfl⟩, C.1.2.2.2.2 _ (List.mem_cons_of_mem _ wl_547), C.1.2.2.2.2 _ (List.mem_cons_of_mem _ wl_548)⟩ 1 rfl rfl [1, 40, 43] rfl rfl rfl rfl (Nat.le_of_ble_eq_true rfl) ⟨Nat.zero_le _, Nat.zero_le _⟩ dX3_seeds_174) 177 rfl ?_
        refine g_istore C dX3_seeds_177 [_, _, _, _, _, _, _, _, _, _, _, _, _] (Nat.le_of_ble_eq_true rfl) rfl rfl 179 rfl ?_
        refine g_iinc C dX3_seeds_179 rfl 1 ic_1 [_, _, _, _, _, _, _, _, _, _, _, _, _] (Nat.le_of_ble_eq_true rfl) rfl rfl 182 rfl ?_
        refine g_goto C dX3_seeds_182 95 (by decide) ?_
        refine g_lv [some (.ref (b 0)), some (.int x1), some (.int x2), some (.int x3), some (.int x4), some (.int x5), some (.int (f_X3_nextSeed x6)), some (.int x7), some (.int x8), some (.int x9), some (.int v10), some (.int (x11 + 1)), none] (lvLe.sm (lvLe.sm (lvLe.sm (lvLe.sm (lvLe.sm (lvLe.sm (lvLe.sm (lvLe.sm (lvLe.sm (lvLe.sm (lvLe.sm (lvLe.sm (lvLe.nn lvLe.nil))))))))))))) ?_
        exact ih _ _ _ _ rv_ hR hk
def f_X3_seeds_L72 (x1 : Int32) (x2 : Int32) (N_ : Nat) : Nat → Int32 → Int32 → Int32 → Int32 → ((Nat → Nat → Int32) × (Nat → Nat → Int64)) → Option (Int32 × Int32 × Int32 × Int32 × ((Nat → Nat → Int32) × (Nat → Nat → Int64)))
  | 0, _, _, _, _, _ => none
  | n_ + 1, x6, x7, x8, x9, S =>
    if x2 ≤ x9 then
      some (x6, x7, x8, x9, S)
    else
      (f_X3_seeds_L95 x1 N_ N_ x6 0 0 ((kS S.1 35 (upd (upd (upd (upd (S.1 35) 0 ((f_X0_fillFrom (S.1 34 0) (S.1 34 1) (S.1 34 2) (S.1 34 3)).1)) 1 ((f_X0_fillFrom (S.1 34 0) (S.1 34 1) (S.1 34 2) (S.1 34 3)).2.1)) 2 ((f_X0_fillFrom (S.1 34 0) (S.1 34 1) (S.1 34 2) (S.1 34 3)).2.2.1)) 3 ((f_X0_fillFrom (S.1 34 0) (S.1 34 1) (S.1 34 2) (S.1 34 3)).2.2.2))), S.2)).bind fun v13 =>
      if v13.2.1 = 4 then
        f_X3_seeds_L72 x1 x2 N_ n_ v13.1 (x7 + (f_X3_trueNet_m v13.2.2.2 v13.2.1 x1)) (x8 + 1) (x9 + 1) v13.2.2.2
      else
        f_X3_seeds_L72 x1 x2 N_ n_ v13.1 (x7 + (f_X3_trueNet_m v13.2.2.2 v13.2.1 x1)) (x8 + 0) (x9 + 1) v13.2.2.2
set_option maxRecDepth 100000 in
set_option maxHeartbeats 4000000 in
theorem k_X3_seeds_L72 (l : Launch) (g : gE) {p : Program} {e : Env} {s : State} {m : MethodId} {args : Array Value} {below : List Frame} {meth : Method} {c : Code} {Q : State → Prop} {A : Nat → Prop} {b : Nat → Nat}  (C : Cx p s m args c g A cX3_seeds 13 wA_X3_seeds RX3) (N_ : Nat) (x1 : Int32) (x2 : Int32) (x3 : Int32) (x4 : Int32) (x5 : Int32) (y : Nat → Nat → Nat) : ∀ (n_ : Nat) (x6 : Int32) (x7 : Int32) (x8 : Int32) (x9 : Int32) (S : (Nat → Nat → Int32) × (Nat → Nat → Int64)) (rv_ : Int32 × Int32 × Int32 × Int32 × ((Nat → Nat → Int32) × (Nat → Nat → Int64))), f_X3_seeds_L72 x1 x2 N_ n_ x6 x7 x8 x9 S = some rv_ → (Gm p l e (headSpec wA_X3_seeds ({ frames := 5, cells := 0, slots := 0, locals := 107 } : Room)).room s m args below meth c Q g A 13 0 0 (wC g b y rv_.2.2.2.2) [some (.ref (b 0)), some (.int x1), some (.int x2), some (.int x3), some (.int x4), some (.int x5), some (.int rv_.1), some (.int rv_.2.1), some (.int rv_.2.2.1), some (.int rv_.2.2.2.1), none, none, none] [] 223) → Gm p l e (headSpec wA_X3_seeds ({ frames := 5, cells := 0, slots := 0, locals := 107 } : Room)).room s m args below meth c Q g A 13 0 0 (wC g b y S) [some (.ref (b 0)), some (.int x1), some (.int x2), some (.int x3), some (.int x4), some (.int x5), some (.int x6), some (.int x7), some (.int x8), some (.int x9), none, none, none] [] 72 := by
  intro n_
  induction n_ with
  | zero =>
    intro x6 x7 x8 x9 S rv_ hR
    simp [f_X3_seeds_L72] at hR
  | succ n_ ih =>
    intro x6 x7 x8 x9 S rv_ hR hk
    rw [f_X3_seeds_L72] at hR
    refine g_iload C dX3_seeds_72 rfl 74 rfl ?_
    refine g_iload_n C dX3_seeds_74 rfl 75 rfl ?_
    refine g_icmp_ge C dX3_seeds_75 hR 223 78 (by decide) rfl (fun c_75 hR => ?_) (fun c_75 hR => ?_)
    · obtain rfl := Option.some.inj hR
      refine g_lv [some (.ref (b 0)), some (.int x1), some (.int x2), some (.int x3), some (.int x4), some (.int x5), some (.int x6), some (.int x7), some (.int x8), some (.int x9), none, none, none] (lvLe.sm (lvLe.sm (lvLe.sm (lvLe.sm (lvLe.sm (lvLe.sm (lvLe.sm (lvLe.sm (lvLe.sm (lvLe.sm (lvLe.nn (lvLe.nn (lvLe.nn lvLe.nil))))))))))))) ?_
      exact hk
    · refine g_aload_n C dX3_seeds_78 rfl 79 rfl ?_
      refine g_get (v := .ref (b 23)) C (hiC hiA_3) 0 rfl rfl 10 (by decide) (List.mem_cons_of_mem _ wl_29) rfl rfl dX3_seeds_79 82 rfl ?_
      refine g_aload_n C dX3_seeds_82 rfl 83 rfl ?_
      refine g_get (v := .ref (b 22)) C (hiC hiA_3) 0 rfl rfl 9 (by decide) (List.mem_cons_of_mem _ wl_28) rfl rfl dX3_seeds_83 86 rfl ?_
      refine g_callV C (rn_VN C (k_X0_fillFrom l g (b 23) (b 22) (S.1 35 0) (S.1 35 1) (S.1 35 2) (S.1 35 3) (S.1 34 0) (S.1 34 1) (S.1 34 2) (S.1 34 3)) ⟨va_cnB 1 C.1.2.2.2.2 (gdA wl_146) rfl rfl rfl (nst C (List.mem_of_getElem? (i := 21) rfl)) (C.1.2.2.2.2 _ (List.mem_cons_of_mem _ wl_27)) hd_X0_fillFrom.2 ⟨Nat.le_of_ble_eq_true rfl, Nat.le_of_ble_eq_true rfl⟩, C.1.2.2.2.2 _ (List.mem_cons_of_mem _ wl_144), C.1.2.2.2.2 _ (List.mem_cons_of_mem _ wl_145)⟩ 38 rfl rfl [38, 37] rfl rfl rfl rfl (Nat.le_of_ble_eq_true rfl) ⟨Nat.zero_le _, Nat.zero_le _⟩ dX3_seeds_86) (wC g b y ((kS S.1 35 (upd (upd (upd (upd (S.1 35) 0 ((f_X0_fillFrom (S.1 34 0) (S.1 34 1) (S.1 34 2) (S.1 34 3)).1)) 1 ((f_X0_fillFrom (S.1 34 0) (S.1 34 1) (S.1 34 2) (S.1 34 3)).2.1)) 2 ((f_X0_fillFrom (S.1 34 0) (S.1 34 1) (S.1 34 2) (S.1 34 3)).2.2.1)) 3 ((f_X0_fillFrom (S.1 34 0) (S.1 34 1) (S.1 34 2) (S.1 34 3)).2.2.2))), S.2)) rfl rfl 89 rfl ?_
      refine g_iconst C dX3_seeds_89 0 ic_0 90 rfl ?_
      refine g_istore C dX3_seeds_90 [_, _, _, _, _, _, _, _, _, _, _, _, _] (Nat.le_of_ble_eq_true rfl) rfl rfl 92 rfl ?_
      refine g_iconst C dX3_seeds_92 0 ic_0 93 rfl ?_
      refine g_istore C dX3_seeds_93 [_, _, _, _, _, _, _, _, _, _, _, _, _] (Nat.le_of_ble_eq_true rfl) rfl rfl 95 rfl ?_
      refine g_lv [some (.ref (b 0)), some (.int x1), some (.int x2), some (.int x3), some (.int x4), some (.int x5), some (.int x6), some (.int x7), some (.int x8), some (.int x9), some (.int 0), some (.int 0), none] (lvLe.sm (lvLe.sm (lvLe.sm (lvLe.sm (lvLe.sm (lvLe.sm (lvLe.sm (lvLe.sm (lvLe.sm (lvLe.sm (lvLe.sm (lvLe.sm (lvLe.nn lvLe.nil))))))))))))) ?_
      obtain ⟨v13, hv13, hR⟩ := opt_b hR
      refine k_X3_seeds_L95 l g C N_ x1 x2 x3 x4 x5 x7 x8 x9 y N_ x6 0 0 ((kS S.1 35 (upd (upd (upd (upd (S.1 35) 0 ((f_X0_fillFrom (S.1 34 0) (S.1 34 1) (S.1 34 2) (S.1 34 3)).1)) 1 ((f_X0_fillFrom (S.1 34 0) (S.1 34 1) (S.1 34 2) (S.1 34 3)).2.1)) 2 ((f_X0_fillFrom (S.1 34 0) (S.1 34 1) (S.1 34 2) (S.1 34 3)).2.2.1)) 3 ((f_X0_fillFrom (S.1 34 0) (S.1 34 1) (S.1 34 2) (S.1 34 3)).2.2.2))), S.2) _ hv13 ?_
      refine g_iload C dX3_seeds_185 rfl 187 rfl ?_
      refine g_aload_n C dX3_seeds_187 rfl 188 rfl ?_
      refine g_aload_n C dX3_seeds_188 rfl 189 rfl ?_
      refine g_get (v := .ref (b 23)) C (hiC hiA_3) 0 rfl rfl 10 (by decide) (List.mem_cons_of_mem _ wl_29) rfl rfl dX3_seeds_189 192 rfl ?_
      refine g_iload C dX3_seeds_192 rfl 194 rfl ?_
      refine g_iload_n C dX3_seeds_194 rfl 195 rfl ?_
      refine g_callIR C (rn_V C (k_X3_trueNet_m l g b y v13.2.2.2 v13.2.1 x1) (cwV 3 C.1.2.2.2.2 (gdV wl_844 wl_841 wl_842 wl_843 wl_2) rfl rfl rfl hd_X3_trueNet ⟨Nat.le_of_ble_eq_true rfl, Nat.le_of_ble_eq_true rfl⟩) 0 rfl rfl _ rg_C rg_n rfl rfl (Nat.le_of_ble_eq_true rfl) ⟨Nat.zero_le _, Nat.zero_le _⟩ dX3_seeds_195) 198 rfl ?_
      refine g_iadd C dX3_seeds_198 199 rfl ?_
      refine g_istore C dX3_seeds_199 [_, _, _, _, _, _, _, _, _, _, _, _, _] (Nat.le_of_ble_eq_true rfl) rfl rfl 201 rfl ?_
      refine g_iload C dX3_seeds_201 rfl 203 rfl ?_
      refine g_iload C dX3_seeds_203 rfl 205 rfl ?_
      refine g_iconst C dX3_seeds_205 4 ic_4 206 rfl ?_
      refine g_icmp_ne C dX3_seeds_206 hR 213 209 (by decide) rfl (fun c_206 hR => ?_) (fun c_206 hR => ?_)
      · refine g_iconst C dX3_seeds_213 0 ic_0 214 rfl ?_
        refine g_iadd C dX3_seeds_214 215 rfl ?_
        refine g_istore C dX3_seeds_215 [_, _, _, _, _, _, _, _, _, _, _, _, _] (Nat.le_of_ble_eq_true rfl) rfl rfl 217 rfl ?_
        refine g_iinc C dX3_seeds_217 rfl 1 ic_1 [_, _, _, _, _, _, _, _, _, _, _, _, _] (Nat.le_of_ble_eq_true rfl) rfl rfl 220 rfl ?_
        refine g_goto C dX3_seeds_220 72 (by decide) ?_
        refine g_lv [some (.ref (b 0)), some (.int x1), some (.int x2), some (.int x3), some (.int x4), some (.int x5), some (.int v13.1), some (.int (x7 + (f_X3_trueNet_m v13.2.2.2 v13.2.1 x1))), some (.int (x8 + 0)), some (.int (x9 + 1)), none, none, none] (lvLe.sm (lvLe.sm (lvLe.sm (lvLe.sm (lvLe.sm (lvLe.sm (lvLe.sm (lvLe.sm (lvLe.sm (lvLe.sm (lvLe.nn (lvLe.nn (lvLe.nn lvLe.nil))))))))))))) ?_
        exact ih _ _ _ _ _ rv_ hR hk
      · refine g_iconst C dX3_seeds_209 1 ic_1 210 rfl ?_
        refine g_goto C dX3_seeds_210 214 (by decide) ?_
        refine g_iadd C dX3_seeds_214 215 rfl ?_
        refine g_istore C dX3_seeds_215 [_, _, _, _, _, _, _, _, _, _, _, _, _] (Nat.le_of_ble_eq_true rfl) rfl rfl 217 rfl ?_
        refine g_iinc C dX3_seeds_217 rfl 1 ic_1 [_, _, _, _, _, _, _, _, _, _, _, _, _] (Nat.le_of_ble_eq_true rfl) rfl rfl 220 rfl ?_
        refine g_goto C dX3_seeds_220 72 (by decide) ?_
        refine g_lv [some (.ref (b 0)), some (.int x1), some (.int x2), some (.int x3), some (.int x4), some (.int x5), some (.int v13.1), some (.int (x7 + (f_X3_trueNet_m v13.2.2.2 v13.2.1 x1))), some (.int (x8 + 1)), some (.int (x9 + 1)), none, none, none] (lvLe.sm (lvLe.sm (lvLe.sm (lvLe.sm (lvLe.sm (lvLe.sm (lvLe.sm (lvLe.sm (lvLe.sm (lvLe.sm (lvLe.nn (lvLe.nn (lvLe.nn lvLe.nil))))))))))))) ?_
        exact ih _ _ _ _ _ rv_ hR hk
def f_X3_seeds (S : (Nat → Nat → Int32) × (Nat → Nat → Int64)) (p0 : Int32) (p1 : Int32) (p2 : Int32) (p3 : Int32) (N_ : Nat) : Option (Int32 × ((Nat → Nat → Int32) × (Nat → Nat → Int64))) :=
  if (f_X3_refusalInHand S (f_X3_isOneOf p0 3) true) = 0 then
    if (f_X3_refusalOutside p1 1 20) = 0 then
      if (b2i (f_X3_isOneOf p3 2)) = 0 then
        some ((f_X3_refuseBig S (-2)).1, (f_X3_refuseBig S (-2)).2)
      else
        (f_X3_think S N_).bind fun v1 =>
        (f_X3_seeds_L72 p0 p1 N_ N_ p2 0 0 0 v1).bind fun v14 =>
        if p3 = 0 then
          some (v14.2.1, v14.2.2.2.2)
        else
          some (v14.2.2.1, v14.2.2.2.2)
    else
      some ((f_X3_refuseBig S (f_X3_refusalOutside p1 1 20)).1, (f_X3_refuseBig S (f_X3_refusalOutside p1 1 20)).2)
  else
    some ((f_X3_refuseBig S (f_X3_refusalInHand S (f_X3_isOneOf p0 3) true)).1, (f_X3_refuseBig S (f_X3_refusalInHand S (f_X3_isOneOf p0 3) true)).2)
set_option maxRecDepth 100000 in
set_option maxHeartbeats 4000000 in
theorem k_X3_seeds (l : Launch) (g : gE) (b : Nat → Nat) (y : Nat → Nat → Nat) (S : (Nat → Nat → Int32) × (Nat → Nat → Int64)) (p0 : Int32) (p1 : Int32) (p2 : Int32) (p3 : Int32) (N_ : Nat) (R_ : Int32 × ((Nat → Nat → Int32) × (Nat → Nat → Int64))) (hR : f_X3_seeds S p0 p1 p2 p3 N_ = some R_) : FnI l g yX3_seeds wA_X3_seeds { frames := 5, cells := 0, slots := 0, locals := 107 } [.ref (b 0), .int p0, .int p1, .int p2, .int p3] (wC g b y S) R_.1 (wC g b y R_.2) := by
  refine fEntry (As := [.ref (b 0), .int p0, .int p1, .int p2, .int p3]) (maxL := 13) (ret := (some .int)) (by decide) rfl [some (.ref (b 0)), some (.int p0), some (.int p1), some (.int p2), some (.int p3), none, none, none, none, none, none, none, none] (Nat.le_of_ble_eq_true rfl) (lvInB.to (lvInB.sm (lvInB.sm (lvInB.sm (lvInB.sm (lvInB.sm (lvInB.nn (lvInB.nn (lvInB.nn (lvInB.nn (lvInB.nn (lvInB.nn (lvInB.nn (lvInB.nn lvInB.nil)))))))))))))) ?_
  intro p e s m below meth c A C hr hlocks hname hA
  have C : Cx p s m _ c g A cX3_seeds 13 wA_X3_seeds RX3 := C
  rw [f_X3_seeds] at hR
  refine g_aload_n C dX3_seeds_0 rfl 1 rfl ?_
  refine g_iload_n C dX3_seeds_1 rfl 2 rfl ?_
  refine g_iconst C dX3_seeds_2 3 ic_3 3 rfl ?_
  refine g_callIR C (rn_S C (k_X3_isOneOf l g p0 3) (va_cwS 2 C.1.2.2.2.2 (gdS wl_95 wl_93 wl_94 wl_2) rfl rfl rfl hd_X3_isOneOf.2 ⟨Nat.le_of_ble_eq_true rfl, Nat.le_of_ble_eq_true rfl⟩) [] rfl rfl rfl rfl (Nat.le_of_ble_eq_true rfl) ⟨Nat.zero_le _, Nat.zero_le _⟩ dX3_seeds_3) 6 rfl ?_
  refine g_iconst C dX3_seeds_6 1 ic_1 7 rfl ?_
  refine g_callIR C (rn_V C (k_X3_refusalInHand l g b y S (f_X3_isOneOf p0 3) true) (cwV 2 C.1.2.2.2.2 (gdV wl_353 wl_350 wl_351 wl_352 wl_2) rfl rfl rfl hd_X3_refusalInHand ⟨Nat.le_of_ble_eq_true rfl, Nat.le_of_ble_eq_true rfl⟩) 0 rfl rfl _ rg_C rg_n rfl rfl (Nat.le_of_ble_eq_true rfl) ⟨Nat.zero_le _, Nat.zero_le _⟩ dX3_seeds_7) 10 rfl ?_
  refine g_istore C dX3_seeds_10 [_, _, _, _, _, _, _, _, _, _, _, _, _] (Nat.le_of_ble_eq_true rfl) rfl rfl 12 rfl ?_
  refine g_iload C dX3_seeds_12 rfl 14 rfl ?_
  refine g_if_ne C dX3_seeds_14 hR 26 17 (by decide) rfl (fun c_14 hR => ?_) (fun c_14 hR => ?_)
  · refine g_iload C dX3_seeds_26 rfl 28 rfl ?_
    refine g_if_neT C dX3_seeds_28 c_14 44 (by decide) ?_
    refine g_iload C dX3_seeds_44 rfl 46 rfl ?_
    refine g_if_eqF C dX3_seeds_46 c_14 56 49 (by decide) rfl ?_
    refine g_aload_n C dX3_seeds_49 rfl 50 rfl ?_
    refine g_iload C dX3_seeds_50 rfl 52 rfl ?_
    refine g_callI C (rn_V C (k_X3_refuseBig l g b y S (f_X3_refusalInHand S (f_X3_isOneOf p0 3) true)) (cwV 1 C.1.2.2.2.2 (gdV wl_832 wl_829 wl_830 wl_831 wl_2) rfl rfl rfl hd_X3_refuseBig ⟨Nat.le_of_ble_eq_true rfl, Nat.le_of_ble_eq_true rfl⟩) 0 rfl rfl _ rg_C rg_n rfl rfl (Nat.le_of_ble_eq_true rfl) ⟨Nat.zero_le _, Nat.zero_le _⟩ dX3_seeds_52) (wC g b y ((f_X3_refuseBig S (f_X3_refusalInHand S (f_X3_isOneOf p0 3) true)).2)) (rg_put (wC_len.trans wC_len.symm)) (rg_len (wC_len.trans wC_len.symm)) 55 rfl ?_
    obtain rfl := Option.some.inj hR
    exact g_iret C hr hlocks hA (by first | (dsimp only; done) | rfl) (by first | (dsimp only; done) | rfl) dX3_seeds_55
  · refine g_iload_n C dX3_seeds_17 rfl 18 rfl ?_
    refine g_iconst C dX3_seeds_18 1 ic_1 19 rfl ?_
    refine g_bipush C dX3_seeds_19 20 bp_20 21 rfl ?_
    refine g_callIR C (rn_S C (k_X3_refusalOutside l g p1 1 20) (va_cwS 3 C.1.2.2.2.2 (gdS wl_92 wl_90 wl_91 wl_2) rfl rfl rfl hd_X3_refusalOutside.2 ⟨Nat.le_of_ble_eq_true rfl, Nat.le_of_ble_eq_true rfl⟩) [] rfl rfl rfl rfl (Nat.le_of_ble_eq_true rfl) ⟨Nat.zero_le _, Nat.zero_le _⟩ dX3_seeds_21) 24 rfl ?_
    refine g_istore C dX3_seeds_24 [_, _, _, _, _, _, _, _, _, _, _, _, _] (Nat.le_of_ble_eq_true rfl) rfl rfl 26 rfl ?_
    refine g_iload C dX3_seeds_26 rfl 28 rfl ?_
    refine g_if_ne C dX3_seeds_28 hR 44 31 (by decide) rfl (fun c_28 hR => ?_) (fun c_28 hR => ?_)
    · refine g_iload C dX3_seeds_44 rfl 46 rfl ?_
      refine g_if_eqF C dX3_seeds_46 c_28 56 49 (by decide) rfl ?_
      refine g_aload_n C dX3_seeds_49 rfl 50 rfl ?_
      refine g_iload C dX3_seeds_50 rfl 52 rfl ?_
      refine g_callI C (rn_V C (k_X3_refuseBig l g b y S (f_X3_refusalOutside p1 1 20)) (cwV 1 C.1.2.2.2.2 (gdV wl_832 wl_829 wl_830 wl_831 wl_2) rfl rfl rfl hd_X3_refuseBig ⟨Nat.le_of_ble_eq_true rfl, Nat.le_of_ble_eq_true rfl⟩) 0 rfl rfl _ rg_C rg_n rfl rfl (Nat.le_of_ble_eq_true rfl) ⟨Nat.zero_le _, Nat.zero_le _⟩ dX3_seeds_52) (wC g b y ((f_X3_refuseBig S (f_X3_refusalOutside p1 1 20)).2)) (rg_put (wC_len.trans wC_len.symm)) (rg_len (wC_len.trans wC_len.symm)) 55 rfl ?_
      obtain rfl := Option.some.inj hR
      exact g_iret C hr hlocks hA (by first | (dsimp only; done) | rfl) (by first | (dsimp only; done) | rfl) dX3_seeds_55
    · refine g_iload C dX3_seeds_31 rfl 33 rfl ?_
      refine g_iconst C dX3_seeds_33 2 ic_2 34 rfl ?_
      refine g_callIR C (rn_S C (k_X3_isOneOf l g p3 2) (va_cwS 2 C.1.2.2.2.2 (gdS wl_95 wl_93 wl_94 wl_2) rfl rfl rfl hd_X3_isOneOf.2 ⟨Nat.le_of_ble_eq_true rfl, Nat.le_of_ble_eq_true rfl⟩) [] rfl rfl rfl rfl (Nat.le_of_ble_eq_true rfl) ⟨Nat.zero_le _, Nat.zero_le _⟩ dX3_seeds_34) 37 rfl ?_
      refine g_if_ne C dX3_seeds_37 hR 44 40 (by decide) rfl (fun c_37 hR => ?_) (fun c_37 hR => ?_)
      · refine g_iload C dX3_seeds_44 rfl 46 rfl ?_
        refine g_if_eqT C dX3_seeds_46 c_28 56 (by decide) ?_
        refine g_aload_n C dX3_seeds_56 rfl 57 rfl ?_
        obtain ⟨v1, hv1, hR⟩ := opt_b hR
        refine g_callV C (rn_V C (k_X3_think l g b y S N_ v1 hv1) (cwV 0 C.1.2.2.2.2 (gdV wl_403 wl_400 wl_401 wl_402 wl_2) rfl rfl rfl hd_X3_think ⟨Nat.le_of_ble_eq_true rfl, Nat.le_of_ble_eq_true rfl⟩) 0 rfl rfl _ rg_C rg_n rfl rfl (Nat.le_of_ble_eq_true rfl) ⟨Nat.zero_le _, Nat.zero_le _⟩ dX3_seeds_57) (wC g b y v1) (rg_put (wC_len.trans wC_len.symm)) (rg_len (wC_len.trans wC_len.symm)) 60 rfl ?_
        refine g_iload_n C dX3_seeds_60 rfl 61 rfl ?_
        refine g_istore C dX3_seeds_61 [_, _, _, _, _, _, _, _, _, _, _, _, _] (Nat.le_of_ble_eq_true rfl) rfl rfl 63 rfl ?_
        refine g_iconst C dX3_seeds_63 0 ic_0 64 rfl ?_
        refine g_istore C dX3_seeds_64 [_, _, _, _, _, _, _, _, _, _, _, _, _] (Nat.le_of_ble_eq_true rfl) rfl rfl 66 rfl ?_
        refine g_iconst C dX3_seeds_66 0 ic_0 67 rfl ?_
        refine g_istore C dX3_seeds_67 [_, _, _, _, _, _, _, _, _, _, _, _, _] (Nat.le_of_ble_eq_true rfl) rfl rfl 69 rfl ?_
        refine g_iconst C dX3_seeds_69 0 ic_0 70 rfl ?_
        refine g_istore C dX3_seeds_70 [_, _, _, _, _, _, _, _, _, _, _, _, _] (Nat.le_of_ble_eq_true rfl) rfl rfl 72 rfl ?_
        refine g_lv [some (.ref (b 0)), some (.int p0), some (.int p1), some (.int p2), some (.int p3), some (.int (f_X3_refusalOutside p1 1 20)), some (.int p2), some (.int 0), some (.int 0), some (.int 0), none, none, none] (lvLe.sm (lvLe.sm (lvLe.sm (lvLe.sm (lvLe.sm (lvLe.sm (lvLe.sm (lvLe.sm (lvLe.sm (lvLe.sm (lvLe.nn (lvLe.nn (lvLe.nn lvLe.nil))))))))))))) ?_
        obtain ⟨v14, hv14, hR⟩ := opt_b hR
        refine k_X3_seeds_L72 l g C N_ p0 p1 p2 p3 (f_X3_refusalOutside p1 1 20) y N_ p2 0 0 0 v1 _ hv14 ?_
        refine g_iload C dX3_seeds_223 rfl 225 rfl ?_
        refine g_if_ne C dX3_seeds_225 hR 233 228 (by decide) rfl (fun c_225 hR => ?_) (fun c_225 hR => ?_)
        · refine g_iload C dX3_seeds_233 rfl 235 rfl ?_
          obtain rfl := Option.some.inj hR
          exact g_iret C hr hlocks hA (by first | (dsimp only; done) | rfl) (by first | (dsimp only; done) | rfl) dX3_seeds_235
        · refine g_iload C dX3_seeds_228 rfl 230 rfl ?_
          refine g_goto C dX3_seeds_230 235 (by decide) ?_
          obtain rfl := Option.some.inj hR
          exact g_iret C hr hlocks hA (by first | (dsimp only; done) | rfl) (by first | (dsimp only; done) | rfl) dX3_seeds_235
      · refine g_bipush C dX3_seeds_40 (-2) bp_m2 42 rfl ?_
        refine g_istore C dX3_seeds_42 [_, _, _, _, _, _, _, _, _, _, _, _, _] (Nat.le_of_ble_eq_true rfl) rfl rfl 44 rfl ?_
        refine g_iload C dX3_seeds_44 rfl 46 rfl ?_
        refine g_if_eqF C dX3_seeds_46 (by decide) 56 49 (by decide) rfl ?_
        refine g_aload_n C dX3_seeds_49 rfl 50 rfl ?_
        refine g_iload C dX3_seeds_50 rfl 52 rfl ?_
        refine g_callI C (rn_V C (k_X3_refuseBig l g b y S (-2)) (cwV 1 C.1.2.2.2.2 (gdV wl_832 wl_829 wl_830 wl_831 wl_2) rfl rfl rfl hd_X3_refuseBig ⟨Nat.le_of_ble_eq_true rfl, Nat.le_of_ble_eq_true rfl⟩) 0 rfl rfl _ rg_C rg_n rfl rfl (Nat.le_of_ble_eq_true rfl) ⟨Nat.zero_le _, Nat.zero_le _⟩ dX3_seeds_52) (wC g b y ((f_X3_refuseBig S (-2)).2)) (rg_put (wC_len.trans wC_len.symm)) (rg_len (wC_len.trans wC_len.symm)) 55 rfl ?_
        obtain rfl := Option.some.inj hR
        exact g_iret C hr hlocks hA (by first | (dsimp only; done) | rfl) (by first | (dsimp only; done) | rfl) dX3_seeds_55
theorem hd_X3_count : yX3_count.cls = RX3 ∧ yX3_count.cls ≠ "java/lang/invoke/MethodHandle" ∧ yX3_count.cls ≠ "java/lang/invoke/VarHandle" ∧ (parseMethodDescriptor yX3_count.desc).map (fun d => d.parameters.length) = some 1 := by decide +kernel
def f_X3_count (S : (Nat → Nat → Int32) × (Nat → Nat → Int64)) (p0 : Int32) (N_ : Nat) : Option (Int32) :=
  if p0 < 11 then
    if p0 < 20 then
      if p0 = 0 then
        some (S.1 0 0)
      else
        if p0 = 1 then
          some (S.1 0 1)
        else
          if p0 = 2 then
            some (S.1 0 2)
          else
            if p0 = 3 then
              some (S.1 0 4)
            else
              if p0 = 4 then
                some (S.1 0 3)
              else
                if p0 = 5 then
                  (f_X1_allCups (kR S.1 0) N_).bind fun v1 =>
                  some v1
                else
                  if p0 = 6 then
                    (f_X1_allPoints (kR S.1 0) N_).bind fun v2 =>
                    some v2
                  else
                    if p0 = 7 then
                      some (S.1 30 1)
                    else
                      if p0 = 8 then
                        some (S.1 30 2)
                      else
                        some (-9)
    else
      if 23 < p0 then
        if p0 = 0 then
          some (S.1 0 0)
        else
          if p0 = 1 then
            some (S.1 0 1)
          else
            if p0 = 2 then
              some (S.1 0 2)
            else
              if p0 = 3 then
                some (S.1 0 4)
              else
                if p0 = 4 then
                  some (S.1 0 3)
                else
                  if p0 = 5 then
                    (f_X1_allCups (kR S.1 0) N_).bind fun v3 =>
                    some v3
                  else
                    if p0 = 6 then
                      (f_X1_allPoints (kR S.1 0) N_).bind fun v4 =>
                      some v4
                    else
                      if p0 = 7 then
                        some (S.1 30 1)
                      else
                        if p0 = 8 then
                          some (S.1 30 2)
                        else
                          some (-9)
      else
        some (f_X1_costOf (S.1 3) (p0 - 20))
  else
    if 16 < p0 then
      if p0 < 20 then
        if p0 = 0 then
          some (S.1 0 0)
        else
          if p0 = 1 then
            some (S.1 0 1)
          else
            if p0 = 2 then
              some (S.1 0 2)
            else
              if p0 = 3 then
                some (S.1 0 4)
              else
                if p0 = 4 then
                  some (S.1 0 3)
                else
                  if p0 = 5 then
                    (f_X1_allCups (kR S.1 0) N_).bind fun v5 =>
                    some v5
                  else
                    if p0 = 6 then
                      (f_X1_allPoints (kR S.1 0) N_).bind fun v6 =>
                      some v6
                    else
                      if p0 = 7 then
                        some (S.1 30 1)
                      else
                        if p0 = 8 then
                          some (S.1 30 2)
                        else
                          some (-9)
      else
        if 23 < p0 then
          if p0 = 0 then
            some (S.1 0 0)
          else
            if p0 = 1 then
              some (S.1 0 1)
            else
              if p0 = 2 then
                some (S.1 0 2)
              else
                if p0 = 3 then
                  some (S.1 0 4)
                else
                  if p0 = 4 then
                    some (S.1 0 3)
                  else
                    if p0 = 5 then
                      (f_X1_allCups (kR S.1 0) N_).bind fun v7 =>
                      some v7
                    else
                      if p0 = 6 then
                        (f_X1_allPoints (kR S.1 0) N_).bind fun v8 =>
                        some v8
                      else
                        if p0 = 7 then
                          some (S.1 30 1)
                        else
                          if p0 = 8 then
                            some (S.1 30 2)
                          else
                            some (-9)
        else
          some (f_X1_costOf (S.1 3) (p0 - 20))
    else
      some (f_X3_at (S.1 33) 7 (p0 - 10))
set_option maxRecDepth 100000 in
set_option maxHeartbeats 4000000 in
theorem k_X3_count (l : Launch) (g : gE) (b : Nat → Nat) (y : Nat → Nat → Nat) (S : (Nat → Nat → Int32) × (Nat → Nat → Int64)) (p0 : Int32) (N_ : Nat) (R_ : Int32) (hR : f_X3_count S p0 N_ = some R_) : FnI l g yX3_count wA_X3_count { frames := 3, cells := 0, slots := 0, locals := 65 } [.ref (b 0), .int p0] (wC g b y S) R_ (wC g b y S) := by
  refine fEntry (As := [.ref (b 0), .int p0]) (maxL := 2) (ret := (some .int)) (by decide) rfl [some (.ref (b 0)), some (.int p0)] (Nat.le_of_ble_eq_true rfl) (lvInB.to (lvInB.sm (lvInB.sm lvInB.nil))) ?_
  intro p e s m below meth c A C hr hlocks hname hA
  have C : Cx p s m _ c g A cX3_count 2 wA_X3_count RX3 := C
  rw [f_X3_count] at hR
  refine g_iload_n C dX3_count_0 rfl 1 rfl ?_
  refine g_bipush C dX3_count_1 11 bp_11 3 rfl ?_
  refine g_icmp_lt C dX3_count_3 hR 24 6 (by decide) rfl (fun c_3 hR => ?_) (fun c_3 hR => ?_)
  · refine g_iload_n C dX3_count_24 rfl 25 rfl ?_
    refine g_bipush C dX3_count_25 20 bp_20 27 rfl ?_
    refine g_icmp_lt C dX3_count_27 hR 48 30 (by decide) rfl (fun c_27 hR => ?_) (fun c_27 hR => ?_)
    · refine g_iload_n C dX3_count_48 rfl 49 rfl ?_
      rcases Decidable.em (p0 = 0) with c_49_0 | c_49_0
      · have hR := (if_pos c_49_0).symm.trans hR
        refine g_tableIn C dX3_count_49 0 c_49_0 (51) 100 (by decide) ?_
        refine g_aload_n C dX3_count_100 rfl 101 rfl ?_
        refine g_get (v := .ref (b 1)) C (hiC hiA_3) 0 rfl rfl 0 (by decide) (List.mem_cons_of_mem _ wl_15) rfl rfl dX3_count_101 104 rfl ?_
        refine g_getN (v := .int (S.1 0 0)) C (hiC hiA_1) 1 rfl rfl 1 (by decide) (List.mem_of_getElem? (i := 11) rfl) rfl rfl dX3_count_104 107 rfl ?_
        obtain rfl := Option.some.inj hR
        exact g_iret C hr hlocks hA (by first | (dsimp only; done) | rfl) (by first | (dsimp only; done) | rfl) dX3_count_107
      · have hR := (if_neg c_49_0).symm.trans hR
        rcases Decidable.em (p0 = 1) with c_49_1 | c_49_1
        · have hR := (if_pos c_49_1).symm.trans hR
          refine g_tableIn C dX3_count_49 1 c_49_1 (59) 108 (by decide) ?_
          refine g_aload_n C dX3_count_108 rfl 109 rfl ?_
          refine g_get (v := .ref (b 1)) C (hiC hiA_3) 0 rfl rfl 0 (by decide) (List.mem_cons_of_mem _ wl_15) rfl rfl dX3_count_109 112 rfl ?_
          refine g_getN (v := .int (S.1 0 1)) C (hiC hiA_1) 1 rfl rfl 2 (by decide) (List.mem_of_getElem? (i := 5) rfl) rfl rfl dX3_count_112 115 rfl ?_
          obtain rfl := Option.some.inj hR
          exact g_iret C hr hlocks hA (by first | (dsimp only; done) | rfl) (by first | (dsimp only; done) | rfl) dX3_count_115
        · have hR := (if_neg c_49_1).symm.trans hR
          rcases Decidable.em (p0 = 2) with c_49_2 | c_49_2
          · have hR := (if_pos c_49_2).symm.trans hR
            refine g_tableIn C dX3_count_49 2 c_49_2 (67) 116 (by decide) ?_
            refine g_aload_n C dX3_count_116 rfl 117 rfl ?_
            refine g_get (v := .ref (b 1)) C (hiC hiA_3) 0 rfl rfl 0 (by decide) (List.mem_cons_of_mem _ wl_15) rfl rfl dX3_count_117 120 rfl ?_
            refine g_getN (v := .int (S.1 0 2)) C (hiC hiA_1) 1 rfl rfl 5 (by decide) (List.mem_of_getElem? (i := 6) rfl) rfl rfl dX3_count_120 123 rfl ?_
            obtain rfl := Option.some.inj hR
            exact g_iret C hr hlocks hA (by first | (dsimp only; done) | rfl) (by first | (dsimp only; done) | rfl) dX3_count_123
          · have hR := (if_neg c_49_2).symm.trans hR
            rcases Decidable.em (p0 = 3) with c_49_3 | c_49_3
            · have hR := (if_pos c_49_3).symm.trans hR
              refine g_tableIn C dX3_count_49 3 c_49_3 (75) 124 (by decide) ?_
              refine g_aload_n C dX3_count_124 rfl 125 rfl ?_
              refine g_get (v := .ref (b 1)) C (hiC hiA_3) 0 rfl rfl 0 (by decide) (List.mem_cons_of_mem _ wl_15) rfl rfl dX3_count_125 128 rfl ?_
              refine g_getN (v := .int (S.1 0 4)) C (hiC hiA_1) 1 rfl rfl 9 (by decide) (List.mem_of_getElem? (i := 9) rfl) rfl rfl dX3_count_128 131 rfl ?_
              obtain rfl := Option.some.inj hR
              exact g_iret C hr hlocks hA (by first | (dsimp only; done) | rfl) (by first | (dsimp only; done) | rfl) dX3_count_131
            · have hR := (if_neg c_49_3).symm.trans hR
              rcases Decidable.em (p0 = 4) with c_49_4 | c_49_4
              · have hR := (if_pos c_49_4).symm.trans hR
                refine g_tableIn C dX3_count_49 4 c_49_4 (83) 132 (by decide) ?_
                refine g_aload_n C dX3_count_132 rfl 133 rfl ?_
                refine g_get (v := .ref (b 1)) C (hiC hiA_3) 0 rfl rfl 0 (by decide) (List.mem_cons_of_mem _ wl_15) rfl rfl dX3_count_133 136 rfl ?_
                refine g_getN (v := .int (S.1 0 3)) C (hiC hiA_1) 1 rfl rfl 7 (by decide) (List.mem_of_getElem? (i := 0) rfl) rfl rfl dX3_count_136 139 rfl ?_
                obtain rfl := Option.some.inj hR
                exact g_iret C hr hlocks hA (by first | (dsimp only; done) | rfl) (by first | (dsimp only; done) | rfl) dX3_count_139
              · have hR := (if_neg c_49_4).symm.trans hR
                rcases Decidable.em (p0 = 5) with c_49_5 | c_49_5
                · have hR := (if_pos c_49_5).symm.trans hR
                  refine g_tableIn C dX3_count_49 5 c_49_5 (91) 140 (by decide) ?_
                  refine g_aload_n C dX3_count_140 rfl 141 rfl ?_
                  refine g_get (v := .ref (b 1)) C (hiC hiA_3) 0 rfl rfl 0 (by decide) (List.mem_cons_of_mem _ wl_15) rfl rfl dX3_count_141 144 rfl ?_
                  obtain ⟨v1, hv1, hR⟩ := opt_b hR
                  refine g_callIR C (rn_VN C (k_X1_allCups l g (fun i => b (1 + i)) (y 0) (kR S.1 0) N_ v1 hv1) ⟨va_cnB 0 C.1.2.2.2.2 (gdA wl_972) rfl rfl rfl (nst C (List.mem_of_getElem? (i := 30) rfl)) (C.1.2.2.2.2 _ (List.mem_cons_of_mem _ wl_14)) hd_X1_allCups.2 ⟨Nat.le_of_ble_eq_true rfl, Nat.le_of_ble_eq_true rfl⟩, C.1.2.2.2.2 _ (List.mem_cons_of_mem _ wl_970), C.1.2.2.2.2 _ (List.mem_cons_of_mem _ wl_971)⟩ 1 rfl rfl [1, 2, 3, 4, 5, 6, 7, 8, 9, 10, 11] (wC_k0) rfl rfl rfl (Nat.le_of_ble_eq_true rfl) ⟨Nat.zero_le _, Nat.zero_le _⟩ dX3_count_144) 147 rfl ?_
                  obtain rfl := Option.some.inj hR
                  exact g_iret C hr hlocks hA (by first | (dsimp only; done) | rfl) (by first | (dsimp only; done) | rfl) dX3_count_147
                · have hR := (if_neg c_49_5).symm.trans hR
                  rcases Decidable.em (p0 = 6) with c_49_6 | c_49_6
                  · have hR := (if_pos c_49_6).symm.trans hR
                    refine g_tableIn C dX3_count_49 6 c_49_6 (99) 148 (by decide) ?_
                    refine g_aload_n C dX3_count_148 rfl 149 rfl ?_
                    refine g_get (v := .ref (b 1)) C (hiC hiA_3) 0 rfl rfl 0 (by decide) (List.mem_cons_of_mem _ wl_15) rfl rfl dX3_count_149 152 rfl ?_
                    obtain ⟨v2, hv2, hR⟩ := opt_b hR
                    refine g_callIR C (rn_VN C (k_X1_allPoints l g (fun i => b (1 + i)) (y 0) (kR S.1 0) N_ v2 hv2) ⟨va_cnB 0 C.1.2.2.2.2 (gdA wl_321) rfl rfl rfl (nst C (List.mem_of_getElem? (i := 12) rfl)) (C.1.2.2.2.2 _ (List.mem_cons_of_mem _ wl_14)) hd_X1_allPoints.2 ⟨Nat.le_of_ble_eq_true rfl, Nat.le_of_ble_eq_true rfl⟩, C.1.2.2.2.2 _ (List.mem_cons_of_mem _ wl_319), C.1.2.2.2.2 _ (List.mem_cons_of_mem _ wl_320)⟩ 1 rfl rfl [1, 2, 3, 4, 5, 6, 7, 8, 9, 10, 11] (wC_k0) rfl rfl rfl (Nat.le_of_ble_eq_true rfl) ⟨Nat.zero_le _, Nat.zero_le _⟩ dX3_count_152) 155 rfl ?_
                    obtain rfl := Option.some.inj hR
                    exact g_iret C hr hlocks hA (by first | (dsimp only; done) | rfl) (by first | (dsimp only; done) | rfl) dX3_count_155
                  · have hR := (if_neg c_49_6).symm.trans hR
                    rcases Decidable.em (p0 = 7) with c_49_7 | c_49_7
                    · have hR := (if_pos c_49_7).symm.trans hR
                      refine g_tableIn C dX3_count_49 7 c_49_7 (107) 156 (by decide) ?_
                      refine g_aload_n C dX3_count_156 rfl 157 rfl ?_
                      refine g_get (v := .int (S.1 30 1)) C (hiC hiA_3) 0 rfl rfl 5 (by decide) (List.mem_cons_of_mem _ wl_21) rfl rfl dX3_count_157 160 rfl ?_
                      obtain rfl := Option.some.inj hR
                      exact g_iret C hr hlocks hA (by first | (dsimp only; done) | rfl) (by first | (dsimp only; done) | rfl) dX3_count_160
                    · have hR := (if_neg c_49_7).symm.trans hR
                      rcases Decidable.em (p0 = 8) with c_49_8 | c_49_8
                      · have hR := (if_pos c_49_8).symm.trans hR
                        refine g_tableIn C dX3_count_49 8 c_49_8 (112) 161 (by decide) ?_
                        refine g_aload_n C dX3_count_161 rfl 162 rfl ?_
                        refine g_get (v := .int (S.1 30 2)) C (hiC hiA_3) 0 rfl rfl 7 (by decide) (List.mem_cons_of_mem _ wl_23) rfl rfl dX3_count_162 165 rfl ?_
                        obtain rfl := Option.some.inj hR
                        exact g_iret C hr hlocks hA (by first | (dsimp only; done) | rfl) (by first | (dsimp only; done) | rfl) dX3_count_165
                      · have hR := (if_neg c_49_8).symm.trans hR
                        refine g_tableD C dX3_count_49 [0, 1, 2, 3, 4, 5, 6, 7, 8] (ne_c c_49_0 (ne_c c_49_1 (ne_c c_49_2 (ne_c c_49_3 (ne_c c_49_4 (ne_c c_49_5 (ne_c c_49_6 (ne_c c_49_7 (ne_c c_49_8 ne_n))))))))) (by decide +kernel) (by decide +kernel) 166 (by decide) ?_
                        refine g_bipush C dX3_count_166 (-9) bp_m9 168 rfl ?_
                        obtain rfl := Option.some.inj hR
                        exact g_iret C hr hlocks hA (by first | (dsimp only; done) | rfl) (by first | (dsimp only; done) | rfl) dX3_count_168
    · refine g_iload_n C dX3_count_30 rfl 31 rfl ?_
      refine g_bipush C dX3_count_31 23 bp_23 33 rfl ?_
      refine g_icmp_gt C dX3_count_33 hR 48 36 (by decide) rfl (fun c_33 hR => ?_) (fun c_33 hR => ?_)
      · refine g_iload_n C dX3_count_48 rfl 49 rfl ?_
        rcases Decidable.em (p0 = 0) with c_49_0 | c_49_0
        · have hR := (if_pos c_49_0).symm.trans hR
          refine g_tableIn C dX3_count_49 0 c_49_0 (51) 100 (by decide) ?_
          refine g_aload_n C dX3_count_100 rfl 101 rfl ?_
          refine g_get (v := .ref (b 1)) C (hiC hiA_3) 0 rfl rfl 0 (by decide) (List.mem_cons_of_mem _ wl_15) rfl rfl dX3_count_101 104 rfl ?_
          refine g_getN (v := .int (S.1 0 0)) C (hiC hiA_1) 1 rfl rfl 1 (by decide) (List.mem_of_getElem? (i := 11) rfl) rfl rfl dX3_count_104 107 rfl ?_
          obtain rfl := Option.some.inj hR
          exact g_iret C hr hlocks hA (by first | (dsimp only; done) | rfl) (by first | (dsimp only; done) | rfl) dX3_count_107
        · have hR := (if_neg c_49_0).symm.trans hR
          rcases Decidable.em (p0 = 1) with c_49_1 | c_49_1
          · have hR := (if_pos c_49_1).symm.trans hR
            refine g_tableIn C dX3_count_49 1 c_49_1 (59) 108 (by decide) ?_
            refine g_aload_n C dX3_count_108 rfl 109 rfl ?_
            refine g_get (v := .ref (b 1)) C (hiC hiA_3) 0 rfl rfl 0 (by decide) (List.mem_cons_of_mem _ wl_15) rfl rfl dX3_count_109 112 rfl ?_
            refine g_getN (v := .int (S.1 0 1)) C (hiC hiA_1) 1 rfl rfl 2 (by decide) (List.mem_of_getElem? (i := 5) rfl) rfl rfl dX3_count_112 115 rfl ?_
            obtain rfl := Option.some.inj hR
            exact g_iret C hr hlocks hA (by first | (dsimp only; done) | rfl) (by first | (dsimp only; done) | rfl) dX3_count_115
          · have hR := (if_neg c_49_1).symm.trans hR
            rcases Decidable.em (p0 = 2) with c_49_2 | c_49_2
            · have hR := (if_pos c_49_2).symm.trans hR
              refine g_tableIn C dX3_count_49 2 c_49_2 (67) 116 (by decide) ?_
              refine g_aload_n C dX3_count_116 rfl 117 rfl ?_
              refine g_get (v := .ref (b 1)) C (hiC hiA_3) 0 rfl rfl 0 (by decide) (List.mem_cons_of_mem _ wl_15) rfl rfl dX3_count_117 120 rfl ?_
              refine g_getN (v := .int (S.1 0 2)) C (hiC hiA_1) 1 rfl rfl 5 (by decide) (List.mem_of_getElem? (i := 6) rfl) rfl rfl dX3_count_120 123 rfl ?_
              obtain rfl := Option.some.inj hR
              exact g_iret C hr hlocks hA (by first | (dsimp only; done) | rfl) (by first | (dsimp only; done) | rfl) dX3_count_123
            · have hR := (if_neg c_49_2).symm.trans hR
              rcases Decidable.em (p0 = 3) with c_49_3 | c_49_3
              · have hR := (if_pos c_49_3).symm.trans hR
                refine g_tableIn C dX3_count_49 3 c_49_3 (75) 124 (by decide) ?_
                refine g_aload_n C dX3_count_124 rfl 125 rfl ?_
                refine g_get (v := .ref (b 1)) C (hiC hiA_3) 0 rfl rfl 0 (by decide) (List.mem_cons_of_mem _ wl_15) rfl rfl dX3_count_125 128 rfl ?_
                refine g_getN (v := .int (S.1 0 4)) C (hiC hiA_1) 1 rfl rfl 9 (by decide) (List.mem_of_getElem? (i := 9) rfl) rfl rfl dX3_count_128 131 rfl ?_
                obtain rfl := Option.some.inj hR
                exact g_iret C hr hlocks hA (by first | (dsimp only; done) | rfl) (by first | (dsimp only; done) | rfl) dX3_count_131
              · have hR := (if_neg c_49_3).symm.trans hR
                rcases Decidable.em (p0 = 4) with c_49_4 | c_49_4
                · have hR := (if_pos c_49_4).symm.trans hR
                  refine g_tableIn C dX3_count_49 4 c_49_4 (83) 132 (by decide) ?_
                  refine g_aload_n C dX3_count_132 rfl 133 rfl ?_
                  refine g_get (v := .ref (b 1)) C (hiC hiA_3) 0 rfl rfl 0 (by decide) (List.mem_cons_of_mem _ wl_15) rfl rfl dX3_count_133 136 rfl ?_
                  refine g_getN (v := .int (S.1 0 3)) C (hiC hiA_1) 1 rfl rfl 7 (by decide) (List.mem_of_getElem? (i := 0) rfl) rfl rfl dX3_count_136 139 rfl ?_
                  obtain rfl := Option.some.inj hR
                  exact g_iret C hr hlocks hA (by first | (dsimp only; done) | rfl) (by first | (dsimp only; done) | rfl) dX3_count_139
                · have hR := (if_neg c_49_4).symm.trans hR
                  rcases Decidable.em (p0 = 5) with c_49_5 | c_49_5
                  · have hR := (if_pos c_49_5).symm.trans hR
                    refine g_tableIn C dX3_count_49 5 c_49_5 (91) 140 (by decide) ?_
                    refine g_aload_n C dX3_count_140 rfl 141 rfl ?_
                    refine g_get (v := .ref (b 1)) C (hiC hiA_3) 0 rfl rfl 0 (by decide) (List.mem_cons_of_mem _ wl_15) rfl rfl dX3_count_141 144 rfl ?_
                    obtain ⟨v3, hv3, hR⟩ := opt_b hR
                    refine g_callIR C (rn_VN C (k_X1_allCups l g (fun i => b (1 + i)) (y 0) (kR S.1 0) N_ v3 hv3) ⟨va_cnB 0 C.1.2.2.2.2 (gdA wl_972) rfl rfl rfl (nst C (List.mem_of_getElem? (i := 30) rfl)) (C.1.2.2.2.2 _ (List.mem_cons_of_mem _ wl_14)) hd_X1_allCups.2 ⟨Nat.le_of_ble_eq_true rfl, Nat.le_of_ble_eq_true rfl⟩, C.1.2.2.2.2 _ (List.mem_cons_of_mem _ wl_970), C.1.2.2.2.2 _ (List.mem_cons_of_mem _ wl_971)⟩ 1 rfl rfl [1, 2, 3, 4, 5, 6, 7, 8, 9, 10, 11] (wC_k0) rfl rfl rfl (Nat.le_of_ble_eq_true rfl) ⟨Nat.zero_le _, Nat.zero_le _⟩ dX3_count_144) 147 rfl ?_
                    obtain rfl := Option.some.inj hR
                    exact g_iret C hr hlocks hA (by first | (dsimp only; done) | rfl) (by first | (dsimp only; done) | rfl) dX3_count_147
                  · have hR := (if_neg c_49_5).symm.trans hR
                    rcases Decidable.em (p0 = 6) with c_49_6 | c_49_6
                    · have hR := (if_pos c_49_6).symm.trans hR
                      refine g_tableIn C dX3_count_49 6 c_49_6 (99) 148 (by decide) ?_
                      refine g_aload_n C dX3_count_148 rfl 149 rfl ?_
                      refine g_get (v := .ref (b 1)) C (hiC hiA_3) 0 rfl rfl 0 (by decide) (List.mem_cons_of_mem _ wl_15) rfl rfl dX3_count_149 152 rfl ?_
                      obtain ⟨v4, hv4, hR⟩ := opt_b hR
                      refine g_callIR C (rn_VN C (k_X1_allPoints l g (fun i => b (1 + i)) (y 0) (kR S.1 0) N_ v4 hv4) ⟨va_cnB 0 C.1.2.2.2.2 (gdA wl_321) rfl rfl rfl (nst C (List.mem_of_getElem? (i := 12) rfl)) (C.1.2.2.2.2 _ (List.mem_cons_of_mem _ wl_14)) hd_X1_allPoints.2 ⟨Nat.le_of_ble_eq_true rfl, Nat.le_of_ble_eq_true rfl⟩, C.1.2.2.2.2 _ (List.mem_cons_of_mem _ wl_319), C.1.2.2.2.2 _ (List.mem_cons_of_mem _ wl_320)⟩ 1 rfl rfl [1, 2, 3, 4, 5, 6, 7, 8, 9, 10, 11] (wC_k0) rfl rfl rfl (Nat.le_of_ble_eq_true rfl) ⟨Nat.zero_le _, Nat.zero_le _⟩ dX3_count_152) 155 rfl ?_
                      obtain rfl := Option.some.inj hR
                      exact g_iret C hr hlocks hA (by first | (dsimp only; done) | rfl) (by first | (dsimp only; done) | rfl) dX3_count_155
                    · have hR := (if_neg c_49_6).symm.trans hR
                      rcases Decidable.em (p0 = 7) with c_49_7 | c_49_7
                      · have hR := (if_pos c_49_7).symm.trans hR
                        refine g_tableIn C dX3_count_49 7 c_49_7 (107) 156 (by decide) ?_
                        refine g_aload_n C dX3_count_156 rfl 157 rfl ?_
                        refine g_get (v := .int (S.1 30 1)) C (hiC hiA_3) 0 rfl rfl 5 (by decide) (List.mem_cons_of_mem _ wl_21) rfl rfl dX3_count_157 160 rfl ?_
                        obtain rfl := Option.some.inj hR
                        exact g_iret C hr hlocks hA (by first | (dsimp only; done) | rfl) (by first | (dsimp only; done) | rfl) dX3_count_160
                      · have hR := (if_neg c_49_7).symm.trans hR
                        rcases Decidable.em (p0 = 8) with c_49_8 | c_49_8
                        · have hR := (if_pos c_49_8).symm.trans hR
                          refine g_tableIn C dX3_count_49 8 c_49_8 (112) 161 (by decide) ?_
                          refine g_aload_n C dX3_count_161 rfl 162 rfl ?_
                          refine g_get (v := .int (S.1 30 2)) C (hiC hiA_3) 0 rfl rfl 7 (by decide) (List.mem_cons_of_mem _ wl_23) rfl rfl dX3_count_162 165 rfl ?_
                          obtain rfl := Option.some.inj hR
                          exact g_iret C hr hlocks hA (by first | (dsimp only; done) | rfl) (by first | (dsimp only; done) | rfl) dX3_count_165
                        · have hR := (if_neg c_49_8).symm.trans hR
                          refine g_tableD C dX3_count_49 [0, 1, 2, 3, 4, 5, 6, 7, 8] (ne_c c_49_0 (ne_c c_49_1 (ne_c c_49_2 (ne_c c_49_3 (ne_c c_49_4 (ne_c c_49_5 (ne_c c_49_6 (ne_c c_49_7 (ne_c c_49_8 ne_n))))))))) (by decide +kernel) (by decide +kernel) 166 (by decide) ?_
                          refine g_bipush C dX3_count_166 (-9) bp_m9 168 rfl ?_
                          obtain rfl := Option.some.inj hR
                          exact g_iret C hr hlocks hA (by first | (dsimp only; done) | rfl) (by first | (dsimp only; done) | rfl) dX3_count_168
      · refine g_aload_n C dX3_count_36 rfl 37 rfl ?_
        refine g_get (v := .ref (b 1)) C (hiC hiA_3) 0 rfl rfl 0 (by decide) (List.mem_cons_of_mem _ wl_15) rfl rfl dX3_count_37 40 rfl ?_
        refine g_iload_n C dX3_count_40 rfl 41 rfl ?_
        refine g_bipush C dX3_count_41 20 bp_20 43 rfl ?_
        refine g_isub C dX3_count_43 44 rfl ?_
        refine g_callIR C (rn_VN C (k_X1_costOf l g (b 1) (b 2) (b 3) (b 4) (b 5) (b 6) (S.1 0 0) (S.1 0 1) (S.1 0 2) (S.1 0 3) (S.1 0 4) (S.1 3) (p0 - 20)) ⟨va_cnB 1 C.1.2.2.2.2 (gdA wl_383) rfl rfl rfl (nst C (List.mem_of_getElem? (i := 15) rfl)) (C.1.2.2.2.2 _ (List.mem_cons_of_mem _ wl_14)) hd_X1_costOf.2 ⟨Nat.le_of_ble_eq_true rfl, Nat.le_of_ble_eq_true rfl⟩, C.1.2.2.2.2 _ (List.mem_cons_of_mem _ wl_381), C.1.2.2.2.2 _ (List.mem_cons_of_mem _ wl_382)⟩ 1 rfl rfl [1, 5] rfl rfl rfl rfl (Nat.le_of_ble_eq_true rfl) ⟨Nat.zero_le _, Nat.zero_le _⟩ dX3_count_44) 47 rfl ?_
        obtain rfl := Option.some.inj hR
        exact g_iret C hr hlocks hA (by first | (dsimp only; done) | rfl) (by first | (dsimp only; done) | rfl) dX3_count_47
  · refine g_iload_n C dX3_count_6 rfl 7 rfl ?_
    refine g_bipush C dX3_count_7 16 bp_16 9 rfl ?_
    refine g_icmp_gt C dX3_count_9 hR 24 12 (by decide) rfl (fun c_9 hR => ?_) (fun c_9 hR => ?_)
    · refine g_iload_n C dX3_count_24 rfl 25 rfl ?_
      refine g_bipush C dX3_count_25 20 bp_20 27 rfl ?_
      refine g_icmp_lt C dX3_count_27 hR 48 30 (by decide) rfl (fun c_27 hR => ?_) (fun c_27 hR => ?_)
      · refine g_iload_n C dX3_count_48 rfl 49 rfl ?_
        rcases Decidable.em (p0 = 0) with c_49_0 | c_49_0
        · have hR := (if_pos c_49_0).symm.trans hR
          refine g_tableIn C dX3_count_49 0 c_49_0 (51) 100 (by decide) ?_
          refine g_aload_n C dX3_count_100 rfl 101 rfl ?_
          refine g_get (v := .ref (b 1)) C (hiC hiA_3) 0 rfl rfl 0 (by decide) (List.mem_cons_of_mem _ wl_15) rfl rfl dX3_count_101 104 rfl ?_
          refine g_getN (v := .int (S.1 0 0)) C (hiC hiA_1) 1 rfl rfl 1 (by decide) (List.mem_of_getElem? (i := 11) rfl) rfl rfl dX3_count_104 107 rfl ?_
          obtain rfl := Option.some.inj hR
          exact g_iret C hr hlocks hA (by first | (dsimp only; done) | rfl) (by first | (dsimp only; done) | rfl) dX3_count_107
        · have hR := (if_neg c_49_0).symm.trans hR
          rcases Decidable.em (p0 = 1) with c_49_1 | c_49_1
          · have hR := (if_pos c_49_1).symm.trans hR
            refine g_tableIn C dX3_count_49 1 c_49_1 (59) 108 (by decide) ?_
            refine g_aload_n C dX3_count_108 rfl 109 rfl ?_
            refine g_get (v := .ref (b 1)) C (hiC hiA_3) 0 rfl rfl 0 (by decide) (List.mem_cons_of_mem _ wl_15) rfl rfl dX3_count_109 112 rfl ?_
            refine g_getN (v := .int (S.1 0 1)) C (hiC hiA_1) 1 rfl rfl 2 (by decide) (List.mem_of_getElem? (i := 5) rfl) rfl rfl dX3_count_112 115 rfl ?_
            obtain rfl := Option.some.inj hR
            exact g_iret C hr hlocks hA (by first | (dsimp only; done) | rfl) (by first | (dsimp only; done) | rfl) dX3_count_115
          · have hR := (if_neg c_49_1).symm.trans hR
            rcases Decidable.em (p0 = 2) with c_49_2 | c_49_2
            · have hR := (if_pos c_49_2).symm.trans hR
              refine g_tableIn C dX3_count_49 2 c_49_2 (67) 116 (by decide) ?_
              refine g_aload_n C dX3_count_116 rfl 117 rfl ?_
              refine g_get (v := .ref (b 1)) C (hiC hiA_3) 0 rfl rfl 0 (by decide) (List.mem_cons_of_mem _ wl_15) rfl rfl dX3_count_117 120 rfl ?_
              refine g_getN (v := .int (S.1 0 2)) C (hiC hiA_1) 1 rfl rfl 5 (by decide) (List.mem_of_getElem? (i := 6) rfl) rfl rfl dX3_count_120 123 rfl ?_
              obtain rfl := Option.some.inj hR
              exact g_iret C hr hlocks hA (by first | (dsimp only; done) | rfl) (by first | (dsimp only; done) | rfl) dX3_count_123
            · have hR := (if_neg c_49_2).symm.trans hR
              rcases Decidable.em (p0 = 3) with c_49_3 | c_49_3
              · have hR := (if_pos c_49_3).symm.trans hR
                refine g_tableIn C dX3_count_49 3 c_49_3 (75) 124 (by decide) ?_
                refine g_aload_n C dX3_count_124 rfl 125 rfl ?_
                refine g_get (v := .ref (b 1)) C (hiC hiA_3) 0 rfl rfl 0 (by decide) (List.mem_cons_of_mem _ wl_15) rfl rfl dX3_count_125 128 rfl ?_
                refine g_getN (v := .int (S.1 0 4)) C (hiC hiA_1) 1 rfl rfl 9 (by decide) (List.mem_of_getElem? (i := 9) rfl) rfl rfl dX3_count_128 131 rfl ?_
                obtain rfl := Option.some.inj hR
                exact g_iret C hr hlocks hA (by first | (dsimp only; done) | rfl) (by first | (dsimp only; done) | rfl) dX3_count_131
              · have hR := (if_neg c_49_3).symm.trans hR
                rcases Decidable.em (p0 = 4) with c_49_4 | c_49_4
                · have hR := (if_pos c_49_4).symm.trans hR
                  refine g_tableIn C dX3_count_49 4 c_49_4 (83) 132 (by decide) ?_
                  refine g_aload_n C dX3_count_132 rfl 133 rfl ?_
                  refine g_get (v := .ref (b 1)) C (hiC hiA_3) 0 rfl rfl 0 (by decide) (List.mem_cons_of_mem _ wl_15) rfl rfl dX3_count_133 136 rfl ?_
                  refine g_getN (v := .int (S.1 0 3)) C (hiC hiA_1) 1 rfl rfl 7 (by decide) (List.mem_of_getElem? (i := 0) rfl) rfl rfl dX3_count_136 139 rfl ?_
                  obtain rfl := Option.some.inj hR
                  exact g_iret C hr hlocks hA (by first | (dsimp only; done) | rfl) (by first | (dsimp only; done) | rfl) dX3_count_139
                · have hR := (if_neg c_49_4).symm.trans hR
                  rcases Decidable.em (p0 = 5) with c_49_5 | c_49_5
                  · have hR := (if_pos c_49_5).symm.trans hR
                    refine g_tableIn C dX3_count_49 5 c_49_5 (91) 140 (by decide) ?_
                    refine g_aload_n C dX3_count_140 rfl 141 rfl ?_
                    refine g_get (v := .ref (b 1)) C (hiC hiA_3) 0 rfl rfl 0 (by decide) (List.mem_cons_of_mem _ wl_15) rfl rfl dX3_count_141 144 rfl ?_
                    obtain ⟨v5, hv5, hR⟩ := opt_b hR
                    refine g_callIR C (rn_VN C (k_X1_allCups l g (fun i => b (1 + i)) (y 0) (kR S.1 0) N_ v5 hv5) ⟨va_cnB 0 C.1.2.2.2.2 (gdA wl_972) rfl rfl rfl (nst C (List.mem_of_getElem? (i := 30) rfl)) (C.1.2.2.2.2 _ (List.mem_cons_of_mem _ wl_14)) hd_X1_allCups.2 ⟨Nat.le_of_ble_eq_true rfl, Nat.le_of_ble_eq_true rfl⟩, C.1.2.2.2.2 _ (List.mem_cons_of_mem _ wl_970), C.1.2.2.2.2 _ (List.mem_cons_of_mem _ wl_971)⟩ 1 rfl rfl [1, 2, 3, 4, 5, 6, 7, 8, 9, 10, 11] (wC_k0) rfl rfl rfl (Nat.le_of_ble_eq_true rfl) ⟨Nat.zero_le _, Nat.zero_le _⟩ dX3_count_144) 147 rfl ?_
                    obtain rfl := Option.some.inj hR
                    exact g_iret C hr hlocks hA (by first | (dsimp only; done) | rfl) (by first | (dsimp only; done) | rfl) dX3_count_147
                  · have hR := (if_neg c_49_5).symm.trans hR
                    rcases Decidable.em (p0 = 6) with c_49_6 | c_49_6
                    · have hR := (if_pos c_49_6).symm.trans hR
                      refine g_tableIn C dX3_count_49 6 c_49_6 (99) 148 (by decide) ?_
                      refine g_aload_n C dX3_count_148 rfl 149 rfl ?_
                      refine g_get (v := .ref (b 1)) C (hiC hiA_3) 0 rfl rfl 0 (by decide) (List.mem_cons_of_mem _ wl_15) rfl rfl dX3_count_149 152 rfl ?_
                      obtain ⟨v6, hv6, hR⟩ := opt_b hR
                      refine g_callIR C (rn_VN C (k_X1_allPoints l g (fun i => b (1 + i)) (y 0) (kR S.1 0) N_ v6 hv6) ⟨va_cnB 0 C.1.2.2.2.2 (gdA wl_321) rfl rfl rfl (nst C (List.mem_of_getElem? (i := 12) rfl)) (C.1.2.2.2.2 _ (List.mem_cons_of_mem _ wl_14)) hd_X1_allPoints.2 ⟨Nat.le_of_ble_eq_true rfl, Nat.le_of_ble_eq_true rfl⟩, C.1.2.2.2.2 _ (List.mem_cons_of_mem _ wl_319), C.1.2.2.2.2 _ (List.mem_cons_of_mem _ wl_320)⟩ 1 rfl rfl [1, 2, 3, 4, 5, 6, 7, 8, 9, 10, 11] (wC_k0) rfl rfl rfl (Nat.le_of_ble_eq_true rfl) ⟨Nat.zero_le _, Nat.zero_le _⟩ dX3_count_152) 155 rfl ?_
                      obtain rfl := Option.some.inj hR
                      exact g_iret C hr hlocks hA (by first | (dsimp only; done) | rfl) (by first | (dsimp only; done) | rfl) dX3_count_155
                    · have hR := (if_neg c_49_6).symm.trans hR
                      rcases Decidable.em (p0 = 7) with c_49_7 | c_49_7
                      · have hR := (if_pos c_49_7).symm.trans hR
                        refine g_tableIn C dX3_count_49 7 c_49_7 (107) 156 (by decide) ?_
                        refine g_aload_n C dX3_count_156 rfl 157 rfl ?_
                        refine g_get (v := .int (S.1 30 1)) C (hiC hiA_3) 0 rfl rfl 5 (by decide) (List.mem_cons_of_mem _ wl_21) rfl rfl dX3_count_157 160 rfl ?_
                        obtain rfl := Option.some.inj hR
                        exact g_iret C hr hlocks hA (by first | (dsimp only; done) | rfl) (by first | (dsimp only; done) | rfl) dX3_count_160
                      · have hR := (if_neg c_49_7).symm.trans hR
                        rcases Decidable.em (p0 = 8) with c_49_8 | c_49_8
                        · have hR := (if_pos c_49_8).symm.trans hR
                          refine g_tableIn C dX3_count_49 8 c_49_8 (112) 161 (by decide) ?_
                          refine g_aload_n C dX3_count_161 rfl 162 rfl ?_
                          refine g_get (v := .int (S.1 30 2)) C (hiC hiA_3) 0 rfl rfl 7 (by decide) (List.mem_cons_of_mem _ wl_23) rfl rfl dX3_count_162 165 rfl ?_
                          obtain rfl := Option.some.inj hR
                          exact g_iret C hr hlocks hA (by first | (dsimp only; done) | rfl) (by first | (dsimp only; done) | rfl) dX3_count_165
                        · have hR := (if_neg c_49_8).symm.trans hR
                          refine g_tableD C dX3_count_49 [0, 1, 2, 3, 4, 5, 6, 7, 8] (ne_c c_49_0 (ne_c c_49_1 (ne_c c_49_2 (ne_c c_49_3 (ne_c c_49_4 (ne_c c_49_5 (ne_c c_49_6 (ne_c c_49_7 (ne_c c_49_8 ne_n))))))))) (by decide +kernel) (by decide +kernel) 166 (by decide) ?_
                          refine g_bipush C dX3_count_166 (-9) bp_m9 168 rfl ?_
                          obtain rfl := Option.some.inj hR
                          exact g_iret C hr hlocks hA (by first | (dsimp only; done) | rfl) (by first | (dsimp only; done) | rfl) dX3_count_168
      · refine g_iload_n C dX3_count_30 rfl 31 rfl ?_
        refine g_bipush C dX3_count_31 23 bp_23 33 rfl ?_
        refine g_icmp_gt C dX3_count_33 hR 48 36 (by decide) rfl (fun c_33 hR => ?_) (fun c_33 hR => ?_)
        · refine g_iload_n C dX3_count_48 rfl 49 rfl ?_
          rcases Decidable.em (p0 = 0) with c_49_0 | c_49_0
          · have hR := (if_pos c_49_0).symm.trans hR
            refine g_tableIn C dX3_count_49 0 c_49_0 (51) 100 (by decide) ?_
            refine g_aload_n C dX3_count_100 rfl 101 rfl ?_
            refine g_get (v := .ref (b 1)) C (hiC hiA_3) 0 rfl rfl 0 (by decide) (List.mem_cons_of_mem _ wl_15) rfl rfl dX3_count_101 104 rfl ?_
            refine g_getN (v := .int (S.1 0 0)) C (hiC hiA_1) 1 rfl rfl 1 (by decide) (List.mem_of_getElem? (i := 11) rfl) rfl rfl dX3_count_104 107 rfl ?_
            obtain rfl := Option.some.inj hR
            exact g_iret C hr hlocks hA (by first | (dsimp only; done) | rfl) (by first | (dsimp only; done) | rfl) dX3_count_107
          · have hR := (if_neg c_49_0).symm.trans hR
            rcases Decidable.em (p0 = 1) with c_49_1 | c_49_1
            · have hR := (if_pos c_49_1).symm.trans hR
              refine g_tableIn C dX3_count_49 1 c_49_1 (59) 108 (by decide) ?_
              refine g_aload_n C dX3_count_108 rfl 109 rfl ?_
              refine g_get (v := .ref (b 1)) C (hiC hiA_3) 0 rfl rfl 0 (by decide) (List.mem_cons_of_mem _ wl_15) rfl rfl dX3_count_109 112 rfl ?_
              refine g_getN (v := .int (S.1 0 1)) C (hiC hiA_1) 1 rfl rfl 2 (by decide) (List.mem_of_getElem? (i := 5) rfl) rfl rfl dX3_count_112 115 rfl ?_
              obtain rfl := Option.some.inj hR
              exact g_iret C hr hlocks hA (by first | (dsimp only; done) | rfl) (by first | (dsimp only; done) | rfl) dX3_count_115
            · have hR := (if_neg c_49_1).symm.trans hR
              rcases Decidable.em (p0 = 2) with c_49_2 | c_49_2
              · have hR := (if_pos c_49_2).symm.trans hR
                refine g_tableIn C dX3_count_49 2 c_49_2 (67) 116 (by decide) ?_
                refine g_aload_n C dX3_count_116 rfl 117 rfl ?_
                refine g_get (v := .ref (b 1)) C (hiC hiA_3) 0 rfl rfl 0 (by decide) (List.mem_cons_of_mem _ wl_15) rfl rfl dX3_count_117 120 rfl ?_
                refine g_getN (v := .int (S.1 0 2)) C (hiC hiA_1) 1 rfl rfl 5 (by decide) (List.mem_of_getElem? (i := 6) rfl) rfl rfl dX3_count_120 123 rfl ?_
                obtain rfl := Option.some.inj hR
                exact g_iret C hr hlocks hA (by first | (dsimp only; done) | rfl) (by first | (dsimp only; done) | rfl) dX3_count_123
              · have hR := (if_neg c_49_2).symm.trans hR
                rcases Decidable.em (p0 = 3) with c_49_3 | c_49_3
                · have hR := (if_pos c_49_3).symm.trans hR
                  refine g_tableIn C dX3_count_49 3 c_49_3 (75) 124 (by decide) ?_
                  refine g_aload_n C dX3_count_124 rfl 125 rfl ?_
                  refine g_get (v := .ref (b 1)) C (hiC hiA_3) 0 rfl rfl 0 (by decide) (List.mem_cons_of_mem _ wl_15) rfl rfl dX3_count_125 128 rfl ?_
                  refine g_getN (v := .int (S.1 0 4)) C (hiC hiA_1) 1 rfl rfl 9 (by decide) (List.mem_of_getElem? (i := 9) rfl) rfl rfl dX3_count_128 131 rfl ?_
                  obtain rfl := Option.some.inj hR
                  exact g_iret C hr hlocks hA (by first | (dsimp only; done) | rfl) (by first | (dsimp only; done) | rfl) dX3_count_131
                · have hR := (if_neg c_49_3).symm.trans hR
                  rcases Decidable.em (p0 = 4) with c_49_4 | c_49_4
                  · have hR := (if_pos c_49_4).symm.trans hR
                    refine g_tableIn C dX3_count_49 4 c_49_4 (83) 132 (by decide) ?_
                    refine g_aload_n C dX3_count_132 rfl 133 rfl ?_
                    refine g_get (v := .ref (b 1)) C (hiC hiA_3) 0 rfl rfl 0 (by decide) (List.mem_cons_of_mem _ wl_15) rfl rfl dX3_count_133 136 rfl ?_
                    refine g_getN (v := .int (S.1 0 3)) C (hiC hiA_1) 1 rfl rfl 7 (by decide) (List.mem_of_getElem? (i := 0) rfl) rfl rfl dX3_count_136 139 rfl ?_
                    obtain rfl := Option.some.inj hR
                    exact g_iret C hr hlocks hA (by first | (dsimp only; done) | rfl) (by first | (dsimp only; done) | rfl) dX3_count_139
                  · have hR := (if_neg c_49_4).symm.trans hR
                    rcases Decidable.em (p0 = 5) with c_49_5 | c_49_5
                    · have hR := (if_pos c_49_5).symm.trans hR
                      refine g_tableIn C dX3_count_49 5 c_49_5 (91) 140 (by decide) ?_
                      refine g_aload_n C dX3_count_140 rfl 141 rfl ?_
                      refine g_get (v := .ref (b 1)) C (hiC hiA_3) 0 rfl rfl 0 (by decide) (List.mem_cons_of_mem _ wl_15) rfl rfl dX3_count_141 144 rfl ?_
                      obtain ⟨v7, hv7, hR⟩ := opt_b hR
                      refine g_callIR C (rn_VN C (k_X1_allCups l g (fun i => b (1 + i)) (y 0) (kR S.1 0) N_ v7 hv7) ⟨va_cnB 0 C.1.2.2.2.2 (gdA wl_972) rfl rfl rfl (nst C (List.mem_of_getElem? (i := 30) rfl)) (C.1.2.2.2.2 _ (List.mem_cons_of_mem _ wl_14)) hd_X1_allCups.2 ⟨Nat.le_of_ble_eq_true rfl, Nat.le_of_ble_eq_true rfl⟩, C.1.2.2.2.2 _ (List.mem_cons_of_mem _ wl_970), C.1.2.2.2.2 _ (List.mem_cons_of_mem _ wl_971)⟩ 1 rfl rfl [1, 2, 3, 4, 5, 6, 7, 8, 9, 10, 11] (wC_k0) rfl rfl rfl (Nat.le_of_ble_eq_true rfl) ⟨Nat.zero_le _, Nat.zero_le _⟩ dX3_count_144) 147 rfl ?_
                      obtain rfl := Option.some.inj hR
                      exact g_iret C hr hlocks hA (by first | (dsimp only; done) | rfl) (by first | (dsimp only; done) | rfl) dX3_count_147
                    · have hR := (if_neg c_49_5).symm.trans hR
                      rcases Decidable.em (p0 = 6) with c_49_6 | c_49_6
                      · have hR := (if_pos c_49_6).symm.trans hR
                        refine g_tableIn C dX3_count_49 6 c_49_6 (99) 148 (by decide) ?_
                        refine g_aload_n C dX3_count_148 rfl 149 rfl ?_
                        refine g_get (v := .ref (b 1)) C (hiC hiA_3) 0 rfl rfl 0 (by decide) (List.mem_cons_of_mem _ wl_15) rfl rfl dX3_count_149 152 rfl ?_
                        obtain ⟨v8, hv8, hR⟩ := opt_b hR
                        refine g_callIR C (rn_VN C (k_X1_allPoints l g (fun i => b (1 + i)) (y 0) (kR S.1 0) N_ v8 hv8) ⟨va_cnB 0 C.1.2.2.2.2 (gdA wl_321) rfl rfl rfl (nst C (List.mem_of_getElem? (i := 12) rfl)) (C.1.2.2.2.2 _ (List.mem_cons_of_mem _ wl_14)) hd_X1_allPoints.2 ⟨Nat.le_of_ble_eq_true rfl, Nat.le_of_ble_eq_true rfl⟩, C.1.2.2.2.2 _ (List.mem_cons_of_mem _ wl_319), C.1.2.2.2.2 _ (List.mem_cons_of_mem _ wl_320)⟩ 1 rfl rfl [1, 2, 3, 4, 5, 6, 7, 8, 9, 10, 11] (wC_k0) rfl rfl rfl (Nat.le_of_ble_eq_true rfl) ⟨Nat.zero_le _, Nat.zero_le _⟩ dX3_count_152) 155 rfl ?_
                        obtain rfl := Option.some.inj hR
                        exact g_iret C hr hlocks hA (by first | (dsimp only; done) | rfl) (by first | (dsimp only; done) | rfl) dX3_count_155
                      · have hR := (if_neg c_49_6).symm.trans hR
                        rcases Decidable.em (p0 = 7) with c_49_7 | c_49_7
                        · have hR := (if_pos c_49_7).symm.trans hR
                          refine g_tableIn C dX3_count_49 7 c_49_7 (107) 156 (by decide) ?_
                          refine g_aload_n C dX3_count_156 rfl 157 rfl ?_
                          refine g_get (v := .int (S.1 30 1)) C (hiC hiA_3) 0 rfl rfl 5 (by decide) (List.mem_cons_of_mem _ wl_21) rfl rfl dX3_count_157 160 rfl ?_
                          obtain rfl := Option.some.inj hR
                          exact g_iret C hr hlocks hA (by first | (dsimp only; done) | rfl) (by first | (dsimp only; done) | rfl) dX3_count_160
                        · have hR := (if_neg c_49_7).symm.trans hR
                          rcases Decidable.em (p0 = 8) with c_49_8 | c_49_8
                          · have hR := (if_pos c_49_8).symm.trans hR
                            refine g_tableIn C dX3_count_49 8 c_49_8 (112) 161 (by decide) ?_
                            refine g_aload_n C dX3_count_161 rfl 162 rfl ?_
                            refine g_get (v := .int (S.1 30 2)) C (hiC hiA_3) 0 rfl rfl 7 (by decide) (List.mem_cons_of_mem _ wl_23) rfl rfl dX3_count_162 165 rfl ?_
                            obtain rfl := Option.some.inj hR
                            exact g_iret C hr hlocks hA (by first | (dsimp only; done) | rfl) (by first | (dsimp only; done) | rfl) dX3_count_165
                          · have hR := (if_neg c_49_8).symm.trans hR
                            refine g_tableD C dX3_count_49 [0, 1, 2, 3, 4, 5, 6, 7, 8] (ne_c c_49_0 (ne_c c_49_1 (ne_c c_49_2 (ne_c c_49_3 (ne_c c_49_4 (ne_c c_49_5 (ne_c c_49_6 (ne_c c_49_7 (ne_c c_49_8 ne_n))))))))) (by decide +kernel) (by decide +kernel) 166 (by decide) ?_
                            refine g_bipush C dX3_count_166 (-9) bp_m9 168 rfl ?_
                            obtain rfl := Option.some.inj hR
                            exact g_iret C hr hlocks hA (by first | (dsimp only; done) | rfl) (by first | (dsimp only; done) | rfl) dX3_count_168
        · refine g_aload_n C dX3_count_36 rfl 37 rfl ?_
          refine g_get (v := .ref (b 1)) C (hiC hiA_3) 0 rfl rfl 0 (by decide) (List.mem_cons_of_mem _ wl_15) rfl rfl dX3_count_37 40 rfl ?_
          refine g_iload_n C dX3_count_40 rfl 41 rfl ?_
          refine g_bipush C dX3_count_41 20 bp_20 43 rfl ?_
          refine g_isub C dX3_count_43 44 rfl ?_
          refine g_callIR C (rn_VN C (k_X1_costOf l g (b 1) (b 2) (b 3) (b 4) (b 5) (b 6) (S.1 0 0) (S.1 0 1) (S.1 0 2) (S.1 0 3) (S.1 0 4) (S.1 3) (p0 - 20)) ⟨va_cnB 1 C.1.2.2.2.2 (gdA wl_383) rfl rfl rfl (nst C (List.mem_of_getElem? (i := 15) rfl)) (C.1.2.2.2.2 _ (List.mem_cons_of_mem _ wl_14)) hd_X1_costOf.2 ⟨Nat.le_of_ble_eq_true rfl, Nat.le_of_ble_eq_true rfl⟩, C.1.2.2.2.2 _ (List.mem_cons_of_mem _ wl_381), C.1.2.2.2.2 _ (List.mem_cons_of_mem _ wl_382)⟩ 1 rfl rfl [1, 5] rfl rfl rfl rfl (Nat.le_of_ble_eq_true rfl) ⟨Nat.zero_le _, Nat.zero_le _⟩ dX3_count_44) 47 rfl ?_
          obtain rfl := Option.some.inj hR
          exact g_iret C hr hlocks hA (by first | (dsimp only; done) | rfl) (by first | (dsimp only; done) | rfl) dX3_count_47
    · refine g_aload_n C dX3_count_12 rfl 13 rfl ?_
      refine g_get (v := .ref (b 21)) C (hiC hiA_3) 0 rfl rfl 8 (by decide) (List.mem_cons_of_mem _ wl_24) rfl rfl dX3_count_13 16 rfl ?_
      refine g_iload_n C dX3_count_16 rfl 17 rfl ?_
      refine g_bipush C dX3_count_17 10 bp_10 19 rfl ?_
      refine g_isub C dX3_count_19 20 rfl ?_
      refine g_callIR C (rn_S C (k_X3_at l g (b 21) (S.1 33) 7 (p0 - 10) (by decide)) (va_cwS 2 C.1.2.2.2.2 (gdS wl_130 wl_128 wl_129 wl_2) rfl rfl rfl hd_X3_at.2 ⟨Nat.le_of_ble_eq_true rfl, Nat.le_of_ble_eq_true rfl⟩) [36] rfl rfl rfl rfl (Nat.le_of_ble_eq_true rfl) ⟨Nat.zero_le _, Nat.zero_le _⟩ dX3_count_20) 23 rfl ?_
      obtain rfl := Option.some.inj hR
      exact g_iret C hr hlocks hA (by first | (dsimp only; done) | rfl) (by first | (dsimp only; done) | rfl) dX3_count_23
