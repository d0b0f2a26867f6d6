/-! the law's loop -/
section
variable {p : Program} {l : Launch} {e : Env} {s : State} {m : MethodId} {below : List Frame} {meth : Method} {c : Code} {g : gE} {b L : Nat} {xs : Nat → Int32}
theorem law_sw (C : Cx p s m #[Value.ref b] c g (AL s) cL_law 4 wsL_law RL) (hX : va_X b L xs s s.heap) (hbl : b < s.heap.size) (hbA : ¬ AL s b) (hL : L ≤ 2560) {Q : State → Prop} {u d : Nat → Nat} {i : Nat} {y : Nat → Nat → Nat} {S M : ST} (hi : i + 5 ≤ L) (R : Rel S M) (kk : ∀ y2 S2 M2, Rel S2 M2 → LGo p l e s m #[Value.ref b] below meth c Q g (AL s) u d b i 1465 y2 S2 M2) : LGo p l e s m #[Value.ref b] below meth c Q g (AL s) u d b i 26 y S M := by
  unfold LGo
  refine g_aload_n C dL_law_26 (x := b) rfl 27 rfl ?_
  refine g_iload_n C dL_law_27 (x := Int32.ofNat i) rfl 28 rfl ?_
  refine g_sld C hX hbl hbA (by unfold vp_in; rw [p_tn (by omega)]; exact p_nbi (by omega) (by omega)) dL_law_28 29 rfl ?_
  rw [p_tn (show i < 2147483648 by omega)]
  refine g_bipush C dL_law_29 63 rfl 31 rfl ?_
  refine g_iand C dL_law_31 32 rfl ?_
  generalize xs i &&& 63 = x
  by_cases h0 : x = 0
  · exact g_tableIn C dL_law_32 0 h0 192 224 rfl (law_0 C hX hbl hbA hi hL R kk)
  by_cases h1 : x = 1
  · exact g_tableIn C dL_law_32 1 h1 215 247 rfl (law_1 C hX hbl hbA hi hL R kk)
  by_cases h2 : x = 2
  · exact g_tableIn C dL_law_32 2 h2 228 260 rfl (law_2 C hX hbl hbA hi hL R kk)
  by_cases h3 : x = 3
  · exact g_tableIn C dL_law_32 3 h3 261 293 rfl (law_3 C hX hbl hbA hi hL R kk)
  by_cases h4 : x = 4
  · exact g_tableIn C dL_law_32 4 h4 284 316 rfl (law_4 C hX hbl hbA hi hL R kk)
  by_cases h5 : x = 5
  · exact g_tableIn C dL_law_32 5 h5 317 349 rfl (law_5 C hX hbl hbA hi hL R kk)
  by_cases h6 : x = 6
  · exact g_tableIn C dL_law_32 6 h6 340 372 rfl (law_6 C hX hbl hbA hi hL R kk)
  by_cases h7 : x = 7
  · exact g_tableIn C dL_law_32 7 h7 373 405 rfl (law_7 C hX hbl hbA hi hL R kk)
  by_cases h8 : x = 8
  · exact g_tableIn C dL_law_32 8 h8 386 418 rfl (law_8 C hX hbl hbA hi hL R kk)
  by_cases h9 : x = 9
  · exact g_tableIn C dL_law_32 9 h9 409 441 rfl (law_9 C hX hbl hbA hi hL R kk)
  by_cases h10 : x = 10
  · exact g_tableIn C dL_law_32 10 h10 442 474 rfl (law_10 C hX hbl hbA hi hL R kk)
  by_cases h11 : x = 11
  · exact g_tableIn C dL_law_32 11 h11 465 497 rfl (law_11 C hX hbl hbA hi hL R kk)
  by_cases h12 : x = 12
  · exact g_tableIn C dL_law_32 12 h12 498 530 rfl (law_12 C hX hbl hbA hi hL R kk)
  by_cases h13 : x = 13
  · exact g_tableIn C dL_law_32 13 h13 522 554 rfl (law_13 C hX hbl hbA hi hL R kk)
  by_cases h14 : x = 14
  · exact g_tableIn C dL_law_32 14 h14 556 588 rfl (law_14 C hX hbl hbA hi hL R kk)
  by_cases h15 : x = 15
  · exact g_tableIn C dL_law_32 15 h15 580 612 rfl (law_15 C hX hbl hbA hi hL R kk)
  by_cases h16 : x = 16
  · exact g_tableIn C dL_law_32 16 h16 624 656 rfl (law_16 C hX hbl hbA hi hL R kk)
  by_cases h17 : x = 17
  · exact g_tableIn C dL_law_32 17 h17 647 679 rfl (law_17 C hX hbl hbA hi hL R kk)
  by_cases h18 : x = 18
  · exact g_tableIn C dL_law_32 18 h18 670 702 rfl (law_18 C hX hbl hbA hi hL R kk)
  by_cases h19 : x = 19
  · exact g_tableIn C dL_law_32 19 h19 714 746 rfl (law_19 C hX hbl hbA hi hL R kk)
  by_cases h20 : x = 20
  · exact g_tableIn C dL_law_32 20 h20 737 769 rfl (law_20 C hX hbl hbA hi hL R kk)
  by_cases h21 : x = 21
  · exact g_tableIn C dL_law_32 21 h21 760 792 rfl (law_21 C hX hbl hbA hi hL R kk)
  by_cases h22 : x = 22
  · exact g_tableIn C dL_law_32 22 h22 794 826 rfl (law_22 C hX hbl hbA hi hL R kk)
  by_cases h23 : x = 23
  · exact g_tableIn C dL_law_32 23 h23 817 849 rfl (law_23 C hX hbl hbA hi hL R kk)
  by_cases h24 : x = 24
  · exact g_tableIn C dL_law_32 24 h24 851 883 rfl (law_24 C hX hbl hbA hi hL R kk)
  by_cases h25 : x = 25
  · exact g_tableIn C dL_law_32 25 h25 874 906 rfl (law_25 C hX hbl hbA hi hL R kk)
  by_cases h26 : x = 26
  · exact g_tableIn C dL_law_32 26 h26 897 929 rfl (law_26 C hX hbl hbA hi hL R kk)
  by_cases h27 : x = 27
  · exact g_tableIn C dL_law_32 27 h27 910 942 rfl (law_27 C hX hbl hbA hi hL R kk)
  by_cases h28 : x = 28
  · exact g_tableIn C dL_law_32 28 h28 954 986 rfl (law_28 C hX hbl hbA hi hL R kk)
  by_cases h29 : x = 29
  · exact g_tableIn C dL_law_32 29 h29 967 999 rfl (law_29 C hX hbl hbA hi hL R kk)
  by_cases h30 : x = 30
  · exact g_tableIn C dL_law_32 30 h30 1010 1042 rfl (law_30 C hX hbl hbA hi hL R kk)
  by_cases h31 : x = 31
  · exact g_tableIn C dL_law_32 31 h31 1043 1075 rfl (law_31 C hX hbl hbA hi hL R kk)
  by_cases h32 : x = 32
  · exact g_tableIn C dL_law_32 32 h32 1097 1129 rfl (law_32 C hX hbl hbA hi hL R kk)
  by_cases h33 : x = 33
  · exact g_tableIn C dL_law_32 33 h33 1150 1182 rfl (law_33 C hX hbl hbA hi hL R kk)
  by_cases h34 : x = 34
  · exact g_tableIn C dL_law_32 34 h34 1183 1215 rfl (law_34 C hX hbl hbA hi hL R kk)
  by_cases h35 : x = 35
  · exact g_tableIn C dL_law_32 35 h35 1236 1268 rfl (law_35 C hX hbl hbA hi hL R kk)
  by_cases h36 : x = 36
  · exact g_tableIn C dL_law_32 36 h36 1259 1291 rfl (law_36 C hX hbl hbA hi hL R kk)
  by_cases h37 : x = 37
  · exact g_tableIn C dL_law_32 37 h37 1282 1314 rfl (law_37 C hX hbl hbA hi hL R kk)
  by_cases h38 : x = 38
  · exact g_tableIn C dL_law_32 38 h38 1305 1337 rfl (law_38 C hX hbl hbA hi hL R kk)
  by_cases h39 : x = 39
  · exact g_tableIn C dL_law_32 39 h39 1318 1350 rfl (law_39 C hX hbl hbA hi hL R kk)
  by_cases h40 : x = 40
  · exact g_tableIn C dL_law_32 40 h40 1331 1363 rfl (law_40 C hX hbl hbA hi hL R kk)
  by_cases h41 : x = 41
  · exact g_tableIn C dL_law_32 41 h41 1384 1416 rfl (law_41 C hX hbl hbA hi hL R kk)
  by_cases h42 : x = 42
  · exact g_tableIn C dL_law_32 42 h42 1397 1429 rfl (law_42 C hX hbl hbA hi hL R kk)
  by_cases h43 : x = 43
  · exact g_tableIn C dL_law_32 43 h43 1410 1442 rfl (law_43 C hX hbl hbA hi hL R kk)
  refine g_tableOut C dL_law_32 44 rfl (fun j hj => ?_) 1465 rfl (kk y S M R)
  match j, hj with
  | 0, _ => exact h0
  | 1, _ => exact h1
  | 2, _ => exact h2
  | 3, _ => exact h3
  | 4, _ => exact h4
  | 5, _ => exact h5
  | 6, _ => exact h6
  | 7, _ => exact h7
  | 8, _ => exact h8
  | 9, _ => exact h9
  | 10, _ => exact h10
  | 11, _ => exact h11
  | 12, _ => exact h12
  | 13, _ => exact h13
  | 14, _ => exact h14
  | 15, _ => exact h15
  | 16, _ => exact h16
  | 17, _ => exact h17
  | 18, _ => exact h18
  | 19, _ => exact h19
  | 20, _ => exact h20
  | 21, _ => exact h21
  | 22, _ => exact h22
  | 23, _ => exact h23
  | 24, _ => exact h24
  | 25, _ => exact h25
  | 26, _ => exact h26
  | 27, _ => exact h27
  | 28, _ => exact h28
  | 29, _ => exact h29
  | 30, _ => exact h30
  | 31, _ => exact h31
  | 32, _ => exact h32
  | 33, _ => exact h33
  | 34, _ => exact h34
  | 35, _ => exact h35
  | 36, _ => exact h36
  | 37, _ => exact h37
  | 38, _ => exact h38
  | 39, _ => exact h39
  | 40, _ => exact h40
  | 41, _ => exact h41
  | 42, _ => exact h42
  | 43, _ => exact h43
  | n + 44, hj => omega
theorem law_loop (C : Cx p s m #[Value.ref b] c g (AL s) cL_law 4 wsL_law RL) (hr : meth.sig.returnType = ret) (hlocks : meth.locks = false) (hX : va_X b L xs s s.heap) (hbl : b < s.heap.size) (hbA : ¬ AL s b) (hL : L ≤ 2560) {u d : Nat → Nat} : ∀ (n i : Nat) (y : Nat → Nat → Nat) (S M : ST), L < i + 5 + 5 * n → i ≤ 2565 → Rel S M → LGo p l e s m #[Value.ref b] below meth c (lw_Z below #[Value.ref b] s) g (AL s) u d b i 18 y S M := by
  intro n
  induction n with
  | zero =>
    intro i y S M h1 h2 R
    exact law_head C hX hbl hbA hL h2 (fun z => absurd z (by omega)) (fun _ => law_end C hr hlocks)
  | succ n ih =>
    intro i y S M h1 h2 R
    exact law_head C hX hbl hbA hL h2 (fun z => law_sw C hX hbl hbA hL z R (fun y2 S2 M2 R2 => law_back C (ih (i + 5) y2 S2 M2 (by omega) (by omega) R2))) (fun _ => law_end C hr hlocks)
end
