theorem hd_X3_firstBadLetter : yX3_firstBadLetter.cls = RX3 ∧ yX3_firstBadLetter.cls ≠ "java/lang/invoke/MethodHandle" ∧ yX3_firstBadLetter.cls ≠ "java/lang/invoke/VarHandle" ∧ (parseMethodDescriptor yX3_firstBadLetter.desc).map (fun d => d.parameters.length) = some 1 := by decide +kernel
def f_X3_firstBadLetter_L25 (x1 : Int32) (x3 : Int32) (S : (Nat → Nat → Int32) × (Nat → Nat → Int64)) (N_ : Nat) : Nat → Int32 → Int32 → Option ((Int32) ⊕ (Int32 × Int32))
  | 0, _, _ => none
  | n_ + 1, x2, x4 =>
    if x3 ≤ x4 then
      some (.inr (x2, x4))
    else
      if x1 ≤ (x2 + 1) then
        some (.inl (x2 + 1))
      else
        if (b2i (f_X3_isDigit (f_X3_letterAt S (x2 + 1)))) = 0 then
          some (.inl (x2 + 1))
        else
          f_X3_firstBadLetter_L25 x1 x3 S N_ n_ (x2 + 1) (x4 + 1)
set_option maxRecDepth 100000 in
set_option maxHeartbeats 4000000 in
theorem k_X3_firstBadLetter_L25 (l : Launch) (g : gE) {p : Program} {e : Env} {s : State} {m : MethodId} {args : Array Value} {below : List Frame} {meth : Method} {c : Code} {Q : State → Prop} {A : Nat → Prop} {wc0 : va_W} {b : Nat → Nat}  (C : Cx p s m args c g A cX3_firstBadLetter 5 wA_X3_firstBadLetter RX3) (hr : meth.sig.returnType = some .int) (hlocks : meth.locks = false) (hA : va_A wc0 s.heap.size = A) (N_ : Nat) (x1 : Int32) (x3 : Int32) (y : Nat → Nat → Nat) (S : (Nat → Nat → Int32) × (Nat → Nat → Int64)) : ∀ (n_ : Nat) (x2 : Int32) (x4 : Int32) (rv_ : (Int32) ⊕ (Int32 × Int32)), f_X3_firstBadLetter_L25 x1 x3 S N_ n_ x2 x4 = some rv_ → (∀ v_, rv_ = .inr v_ → Gm p l e (headSpec wA_X3_firstBadLetter ({ frames := 2, cells := 0, slots := 0, locals := 42 } : Room)).room s m args below meth c Q g A 5 0 0 (wC g b y S) [some (.ref (b 0)), some (.int x1), some (.int v_.1), some (.int x3), some (.int v_.2)] [] 58) → (∀ r_, rv_ = .inl r_ → Q = MQ below (qI g wc0 r_ (wC g b y S) s.heap.size) args s 0 0 A) → Gm p l e (headSpec wA_X3_firstBadLetter ({ frames := 2, cells := 0, slots := 0, locals := 42 } : Room)).room s m args below meth c Q g A 5 0 0 (wC g b y S) [some (.ref (b 0)), some (.int x1), some (.int x2), some (.int x3), some (.int x4)] [] 25 := by
  intro n_
  induction n_ with
  | zero =>
    intro x2 x4 rv_ hR
    simp [f_X3_firstBadLetter_L25] at hR
  | succ n_ ih =>
    intro x2 x4 rv_ hR hk hq
    rw [f_X3_firstBadLetter_L25] at hR
    refine g_iload C dX3_firstBadLetter_25 rfl 27 rfl ?_
    refine g_iload_n C dX3_firstBadLetter_27 rfl 28 rfl ?_
    refine g_icmp_ge C dX3_firstBadLetter_28 hR 58 31 (by decide) rfl (fun c_28 hR => ?_) (fun c_28 hR => ?_)
    · obtain rfl := Option.some.inj hR
      refine g_lv [some (.ref (b 0)), some (.int x1), some (.int x2), some (.int x3), some (.int x4)] (lvLe.sm (lvLe.sm (lvLe.sm (lvLe.sm (lvLe.sm lvLe.nil))))) ?_
      exact hk _ rfl
    · refine g_iinc C dX3_firstBadLetter_31 rfl 1 ic_1 [_, _, _, _, _] (Nat.le_of_ble_eq_true rfl) rfl rfl 34 rfl ?_
      refine g_iload_n C dX3_firstBadLetter_34 rfl 35 rfl ?_
      refine g_iload_n C dX3_firstBadLetter_35 rfl 36 rfl ?_
      refine g_icmp_ge C dX3_firstBadLetter_36 hR 50 39 (by decide) rfl (fun c_36 hR => ?_) (fun c_36 hR => ?_)
      · refine g_iload_n C dX3_firstBadLetter_50 rfl 51 rfl ?_
        obtain rfl := Option.some.inj hR
        rw [hq _ rfl]
        exact g_iret C hr hlocks hA (by first | (dsimp only; done) | rfl) (by first | (dsimp only; done) | rfl) dX3_firstBadLetter_51
      · refine g_aload_n C dX3_firstBadLetter_39 rfl 40 rfl ?_
        refine g_iload_n C dX3_firstBadLetter_40 rfl 41 rfl ?_
        refine g_callIR C (rn_V C (k_X3_letterAt l g b y S (x2 + 1)) (cwV 1 C.1.2.2.2.2 (gdV wl_127 wl_124 wl_125 wl_126 wl_2) rfl rfl rfl hd_X3_letterAt ⟨Nat.le_of_ble_eq_true rfl, Nat.le_of_ble_eq_true rfl⟩) 0 rfl rfl _ rg_C rg_n rfl rfl (Nat.le_of_ble_eq_true rfl) ⟨Nat.zero_le _, Nat.zero_le _⟩ dX3_firstBadLetter_41) 44 rfl ?_
        refine g_callIR C (rn_S C (k_X3_isDigit l g (f_X3_letterAt S (x2 + 1))) (va_cwS 1 C.1.2.2.2.2 (gdS wl_136 wl_134 wl_135 wl_2) rfl rfl rfl hd_X3_isDigit.2 ⟨Nat.le_of_ble_eq_true rfl, Nat.le_of_ble_eq_true rfl⟩) [] rfl rfl rfl rfl (Nat.le_of_ble_eq_true rfl) ⟨Nat.zero_le _, Nat.zero_le _⟩ dX3_firstBadLetter_44) 47 rfl ?_
        refine g_if_ne C dX3_firstBadLetter_47 hR 52 50 (by decide) rfl (fun c_47 hR => ?_) (fun c_47 hR => ?_)
        · refine g_iinc C dX3_firstBadLetter_52 rfl 1 ic_1 [_, _, _, _, _] (Nat.le_of_ble_eq_true rfl) rfl rfl 55 rfl ?_
          refine g_goto C dX3_firstBadLetter_55 25 (by decide) ?_
          refine g_lv [some (.ref (b 0)), some (.int x1), some (.int (x2 + 1)), some (.int x3), some (.int (x4 + 1))] (lvLe.sm (lvLe.sm (lvLe.sm (lvLe.sm (lvLe.sm lvLe.nil))))) ?_
          exact ih _ _ rv_ hR hk hq
        · refine g_iload_n C dX3_firstBadLetter_50 rfl 51 rfl ?_
          obtain rfl := Option.some.inj hR
          rw [hq _ rfl]
          exact g_iret C hr hlocks hA (by first | (dsimp only; done) | rfl) (by first | (dsimp only; done) | rfl) dX3_firstBadLetter_51
def f_X3_firstBadLetter_L2 (x1 : Int32) (S : (Nat → Nat → Int32) × (Nat → Nat → Int64)) (N_ : Nat) : Nat → Int32 → Option ((Int32) ⊕ (Int32))
  | 0, _ => none
  | n_ + 1, x2 =>
    if x1 ≤ x2 then
      some (.inr x2)
    else
      if 0 ≤ (f_X3_digitsOf (f_X3_letterAt S x2)) then
        (f_X3_firstBadLetter_L25 x1 (f_X3_digitsOf (f_X3_letterAt S x2)) S N_ N_ x2 0).bind fun v5 =>
          match v5 with
          | .inl r => some (.inl r)
          | .inr v6 =>
            if x1 ≤ (v6.1 + 1) then
              some (.inl (v6.1 + 1))
            else
              if (f_X3_letterAt S (v6.1 + 1)) = 59 then
                f_X3_firstBadLetter_L2 x1 S N_ n_ ((v6.1 + 1) + 1)
              else
                some (.inl (v6.1 + 1))
      else
        some (.inl x2)
set_option maxRecDepth 100000 in
set_option maxHeartbeats 4000000 in
theorem k_X3_firstBadLetter_L2 (l : Launch) (g : gE) {p : Program} {e : Env} {s : State} {m : MethodId} {args : Array Value} {below : List Frame} {meth : Method} {c : Code} {Q : State → Prop} {A : Nat → Prop} {wc0 : va_W} {b : Nat → Nat}  (C : Cx p s m args c g A cX3_firstBadLetter 5 wA_X3_firstBadLetter RX3) (hr : meth.sig.returnType = some .int) (hlocks : meth.locks = false) (hA : va_A wc0 s.heap.size = A) (N_ : Nat) (x1 : Int32) (y : Nat → Nat → Nat) (S : (Nat → Nat → Int32) × (Nat → Nat → Int64)) : ∀ (n_ : Nat) (x2 : Int32) (rv_ : (Int32) ⊕ (Int32)), f_X3_firstBadLetter_L2 x1 S N_ n_ x2 = some rv_ → (∀ v_, rv_ = .inr v_ → Gm p l e (headSpec wA_X3_firstBadLetter ({ frames := 2, cells := 0, slots := 0, locals := 42 } : Room)).room s m args below meth c Q g A 5 0 0 (wC g b y S) [some (.ref (b 0)), some (.int x1), some (.int v_), none, none] [] 84) → (∀ r_, rv_ = .inl r_ → Q = MQ below (qI g wc0 r_ (wC g b y S) s.heap.size) args s 0 0 A) → Gm p l e (headSpec wA_X3_firstBadLetter ({ frames := 2, cells := 0, slots := 0, locals := 42 } : Room)).room s m args below meth c Q g A 5 0 0 (wC g b y S) [some (.ref (b 0)), some (.int x1), some (.int x2), none, none] [] 2 := by
  intro n_
  induction n_ with
  | zero =>
    intro x2 rv_ hR
    simp [f_X3_firstBadLetter_L2] at hR
  | succ n_ ih =>
    intro x2 rv_ hR hk hq
    rw [f_X3_firstBadLetter_L2] at hR
    refine g_iload_n C dX3_firstBadLetter_2 rfl 3 rfl ?_
    refine g_iload_n C dX3_firstBadLetter_3 rfl 4 rfl ?_
    refine g_icmp_ge C dX3_firstBadLetter_4 hR 84 7 (by decide) rfl (fun c_4 hR => ?_) (fun c_4 hR => ?_)
    · obtain rfl := Option.some.inj hR
      refine g_lv [some (.ref (b 0)), some (.int x1), some (.int x2), none, none] (lvLe.sm (lvLe.sm (lvLe.sm (lvLe.nn (lvLe.nn lvLe.nil))))) ?_
      exact hk _ rfl
    · refine g_aload_n C dX3_firstBadLetter_7 rfl 8 rfl ?_
      refine g_iload_n C dX3_firstBadLetter_8 rfl 9 rfl ?_
      refine g_callIR C (rn_V C (k_X3_letterAt l g b y S x2) (cwV 1 C.1.2.2.2.2 (gdV wl_127 wl_124 wl_125 wl_126 wl_2) rfl rfl rfl hd_X3_letterAt ⟨Nat.le_of_ble_eq_true rfl, Nat.le_of_ble_eq_true rfl⟩) 0 rfl rfl _ rg_C rg_n rfl rfl (Nat.le_of_ble_eq_true rfl) ⟨Nat.zero_le _, Nat.zero_le _⟩ dX3_firstBadLetter_9) 12 rfl ?_
      refine g_callIR C (rn_S C (k_X3_digitsOf l g (f_X3_letterAt S x2)) (va_cwS 1 C.1.2.2.2.2 (gdS wl_133 wl_131 wl_132 wl_2) rfl rfl rfl hd_X3_digitsOf.2 ⟨Nat.le_of_ble_eq_true rfl, Nat.le_of_ble_eq_true rfl⟩) [] rfl rfl rfl rfl (Nat.le_of_ble_eq_true rfl) ⟨Nat.zero_le _, Nat.zero_le _⟩ dX3_firstBadLetter_12) 15 rfl ?_
      refine g_istore_n C dX3_firstBadLetter_15 [_, _, _, _, _] (Nat.le_of_ble_eq_true rfl) rfl rfl 16 rfl ?_
      refine g_iload_n C dX3_firstBadLetter_16 rfl 17 rfl ?_
      refine g_if_ge C dX3_firstBadLetter_17 hR 22 20 (by decide) rfl (fun c_17 hR => ?_) (fun c_17 hR => ?_)
      · refine g_iconst C dX3_firstBadLetter_22 0 ic_0 23 rfl ?_
        refine g_istore C dX3_firstBadLetter_23 [_, _, _, _, _] (Nat.le_of_ble_eq_true rfl) rfl rfl 25 rfl ?_
        refine g_lv [some (.ref (b 0)), some (.int x1), some (.int x2), some (.int (f_X3_digitsOf (f_X3_letterAt S x2))), some (.int 0)] (lvLe.sm (lvLe.sm (lvLe.sm (lvLe.sm (lvLe.sm lvLe.nil))))) ?_
        obtain ⟨v5, hv5, hR⟩ := opt_b hR
        rcases v5 with r_ | v6
        · refine k_X3_firstBadLetter_L25 l g C hr hlocks hA N_ x1 (f_X3_digitsOf (f_X3_letterAt S x2)) y S N_ x2 0 _ hv5 (fun _ h => nomatch h) (fun r h => ?_)
          cases h
          obtain rfl := Option.some.inj hR
          exact hq _ rfl
        · refine k_X3_firstBadLetter_L25 l g C hr hlocks hA N_ x1 (f_X3_digitsOf (f_X3_letterAt S x2)) y S N_ x2 0 _ hv5 (fun _ h => ?_) (fun _ h => nomatch h)
          cases h
          refine g_iinc C dX3_firstBadLetter_58 rfl 1 ic_1 [_, _, _, _, _] (Nat.le_of_ble_eq_true rfl) rfl rfl 61 rfl ?_
          refine g_iload_n C dX3_firstBadLetter_61 rfl 62 rfl ?_
          refine g_iload_n C dX3_firstBadLetter_62 rfl 63 rfl ?_
          refine g_icmp_ge C dX3_firstBadLetter_63 hR 76 66 (by decide) rfl (fun c_63 hR => ?_) (fun c_63 hR => ?_)
          · refine g_iload_n C dX3_firstBadLetter_76 rfl 77 rfl ?_
            obtain rfl := Option.some.inj hR
            rw [hq _ rfl]
            exact g_iret C hr hlocks hA (by first | (dsimp only; done) | rfl) (by first | (dsimp only; done) | rfl) dX3_firstBadLetter_77
          · refine g_aload_n C dX3_firstBadLetter_66 rfl 67 rfl ?_
            refine g_iload_n C dX3_firstBadLetter_67 rfl 68 rfl ?_
            refine g_callIR C (rn_V C (k_X3_letterAt l g b y S (v6.1 + 1)) (cwV 1 C.1.2.2.2.2 (gdV wl_127 wl_124 wl_125 wl_126 wl_2) rfl rfl rfl hd_X3_letterAt ⟨Nat.le_of_ble_eq_true rfl, Nat.le_of_ble_eq_true rfl⟩) 0 rfl rfl _ rg_C rg_n rfl rfl (Nat.le_of_ble_eq_true rfl) ⟨Nat.zero_le _, Nat.zero_le _⟩ dX3_firstBadLetter_68) 71 rfl ?_
            refine g_bipush C dX3_firstBadLetter_71 59 bp_59 73 rfl ?_
            refine g_icmp_eq C dX3_firstBadLetter_73 hR 78 76 (by decide) rfl (fun c_73 hR => ?_) (fun c_73 hR => ?_)
            · refine g_iinc C dX3_firstBadLetter_78 rfl 1 ic_1 [_, _, _, _, _] (Nat.le_of_ble_eq_true rfl) rfl rfl 81 rfl ?_
              refine g_goto C dX3_firstBadLetter_81 2 (by decide) ?_
              refine g_lv [some (.ref (b 0)), some (.int x1), some (.int ((v6.1 + 1) + 1)), none, none] (lvLe.sm (lvLe.sm (lvLe.sm (lvLe.nn (lvLe.nn lvLe.nil))))) ?_
              exact ih _ rv_ hR hk hq
            · refine g_iload_n C dX3_firstBadLetter_76 rfl 77 rfl ?_
              obtain rfl := Option.some.inj hR
              rw [hq _ rfl]
              exact g_iret C hr hlocks hA (by first | (dsimp only; done) | rfl) (by first | (dsimp only; done) | rfl) dX3_firstBadLetter_77
      · refine g_iload_n C dX3_firstBadLetter_20 rfl 21 rfl ?_
        obtain rfl := Option.some.inj hR
        rw [hq _ rfl]
        exact g_iret C hr hlocks hA (by first | (dsimp only; done) | rfl) (by first | (dsimp only; done) | rfl) dX3_firstBadLetter_21
def f_X3_firstBadLetter (S : (Nat → Nat → Int32) × (Nat → Nat → Int64)) (p0 : Int32) (N_ : Nat) : Option (Int32) :=
  (f_X3_firstBadLetter_L2 p0 S N_ N_ 0).bind fun v7 =>
    match v7 with
    | .inl r => some r
    | .inr v8 =>
      if p0 = 0 then
        some 0
      else
        some (-1)
set_option maxRecDepth 100000 in
set_option maxHeartbeats 4000000 in
theorem k_X3_firstBadLetter (l : Launch) (g : gE) (b : Nat → Nat) (y : Nat → Nat → Nat) (S : (Nat → Nat → Int32) × (Nat → Nat → Int64)) (p0 : Int32) (N_ : Nat) (R_ : Int32) (hR : f_X3_firstBadLetter S p0 N_ = some R_) : FnI l g yX3_firstBadLetter wA_X3_firstBadLetter { frames := 2, cells := 0, slots := 0, locals := 42 } [.ref (b 0), .int p0] (wC g b y S) R_ (wC g b y S) := by
  refine fEntry (As := [.ref (b 0), .int p0]) (maxL := 5) (ret := (some .int)) (by decide) rfl [some (.ref (b 0)), some (.int p0), none, none, none] (Nat.le_of_ble_eq_true rfl) (lvInB.to (lvInB.sm (lvInB.sm (lvInB.nn (lvInB.nn (lvInB.nn lvInB.nil)))))) ?_
  intro p e s m below meth c A C hr hlocks hname hA
  have C : Cx p s m _ c g A cX3_firstBadLetter 5 wA_X3_firstBadLetter RX3 := C
  rw [f_X3_firstBadLetter] at hR
  refine g_iconst C dX3_firstBadLetter_0 0 ic_0 1 rfl ?_
  refine g_istore_n C dX3_firstBadLetter_1 [_, _, _, _, _] (Nat.le_of_ble_eq_true rfl) rfl rfl 2 rfl ?_
  refine g_lv [some (.ref (b 0)), some (.int p0), some (.int 0), none, none] (lvLe.sm (lvLe.sm (lvLe.sm (lvLe.nn (lvLe.nn lvLe.nil))))) ?_
  obtain ⟨v7, hv7, hR⟩ := opt_b hR
  rcases v7 with r_ | v8
  · refine k_X3_firstBadLetter_L2 l g C hr hlocks hA N_ p0 y S N_ 0 _ hv7 (fun _ h => nomatch h) (fun r h => ?_)
    cases h
    obtain rfl := Option.some.inj hR
    rfl
  · refine k_X3_firstBadLetter_L2 l g C hr hlocks hA N_ p0 y S N_ 0 _ hv7 (fun _ h => ?_) (fun _ h => nomatch h)
    cases h
    refine g_iload_n C dX3_firstBadLetter_84 rfl 85 rfl ?_
    refine g_if_ne C dX3_firstBadLetter_85 hR 92 88 (by decide) rfl (fun c_85 hR => ?_) (fun c_85 hR => ?_)
    · refine g_iconst C dX3_firstBadLetter_92 (-1) ic_m1 93 rfl ?_
      obtain rfl := Option.some.inj hR
      exact g_iret C hr hlocks hA (by first | (dsimp only; done) | rfl) (by first | (dsimp only; done) | rfl) dX3_firstBadLetter_93
    · refine g_iconst C dX3_firstBadLetter_88 0 ic_0 89 rfl ?_
      refine g_goto C dX3_firstBadLetter_89 93 (by decide) ?_
      obtain rfl := Option.some.inj hR
      exact g_iret C hr hlocks hA (by first | (dsimp only; done) | rfl) (by first | (dsimp only; done) | rfl) dX3_firstBadLetter_93
theorem hd_X3_use : yX3_use.cls = RX3 ∧ yX3_use.cls ≠ "java/lang/invoke/MethodHandle" ∧ yX3_use.cls ≠ "java/lang/invoke/VarHandle" ∧ (parseMethodDescriptor yX3_use.desc).map (fun d => d.parameters.length) = some 1 := by decide +kernel
def f_X3_use (y : Nat → Nat → Nat) (S : (Nat → Nat → Int32) × (Nat → Nat → Int64)) (p0 : Int32) (N_ : Nat) : Option (Int32 × (Nat → Nat → Nat) × ((Nat → Nat → Int32) × (Nat → Nat → Int64))) :=
  if jIn (S.1 0 0) (S.1 0 1) then
    if 1 ≤ p0 then
      (f_X1_takeCupsp (y 0) (kR S.1 0) p0 N_).bind fun v1 =>
      if (b2i v1.1) = 0 then
        some ((f_X3_refuse ((kP S.1 0 v1.2.2), S.2) (-6)).1, (yP y 0 v1.2.1), (f_X3_refuse ((kP S.1 0 v1.2.2), S.2) (-6)).2)
      else
        some (((S.1 7 (Int32.toNatClampNeg (S.1 0 1))) - p0), (yP y 0 v1.2.1), ((kP S.1 0 v1.2.2), S.2))
    else
      some ((f_X3_refuse S (-4)).1, y, (f_X3_refuse S (-4)).2)
  else
    some ((f_X3_refuse S (-3)).1, y, (f_X3_refuse S (-3)).2)
set_option maxRecDepth 100000 in
set_option maxHeartbeats 4000000 in
theorem k_X3_use (l : Launch) (g : gE) (b : Nat → Nat) (y : Nat → Nat → Nat) (S : (Nat → Nat → Int32) × (Nat → Nat → Int64)) (p0 : Int32) (N_ : Nat) (R_ : Int32 × (Nat → Nat → Nat) × ((Nat → Nat → Int32) × (Nat → Nat → Int64))) (hR : f_X3_use y S p0 N_ = some R_) : FnI l g yX3_use wA_X3_use { frames := 4, cells := 0, slots := 0, locals := 84 } [.ref (b 0), .int p0] (wC g b y S) R_.1 (wC g b R_.2.1 R_.2.2) := by
  refine fEntry (As := [.ref (b 0), .int p0]) (maxL := 4) (ret := (some .int)) (by decide) rfl [some (.ref (b 0)), some (.int p0), none, none] (Nat.le_of_ble_eq_true rfl) (lvInB.to (lvInB.sm (lvInB.sm (lvInB.nn (lvInB.nn lvInB.nil))))) ?_
  intro p e s m below meth c A C hr hlocks hname hA
  have C : Cx p s m _ c g A cX3_use 4 wA_X3_use RX3 := C
  rw [f_X3_use] at hR
  refine g_aload_n C dX3_use_0 rfl 1 rfl ?_
  refine g_get (v := .ref (b 1)) C (hiC hiA_3) 0 rfl rfl 0 (by decide) (List.mem_cons_of_mem _ wl_15) rfl rfl dX3_use_1 4 rfl ?_
  refine g_callQR C (rn_VN C (k_X1_inHandq l g (b 1) (b 2) (b 3) (b 4) (b 5) (b 6) (S.1 0 0) (S.1 0 1) (S.1 0 2) (S.1 0 3) (S.1 0 4) (y 0)) ⟨va_cnB 0 C.1.2.2.2.2 (gdA wl_199) rfl rfl rfl (nst C (List.mem_of_getElem? (i := 14) rfl)) (C.1.2.2.2.2 _ (List.mem_cons_of_mem _ wl_14)) hd_X1_inHand.2 ⟨Nat.le_of_ble_eq_true rfl, Nat.le_of_ble_eq_true rfl⟩, C.1.2.2.2.2 _ (List.mem_cons_of_mem _ wl_197), C.1.2.2.2.2 _ (List.mem_cons_of_mem _ wl_198)⟩ 1 rfl rfl [1, 2] rfl rfl rfl rfl (Nat.le_of_ble_eq_true rfl) ⟨Nat.zero_le _, Nat.zero_le _⟩ dX3_use_4) hR 7 rfl (fun c_4 hR => ?_) (fun c_4 hR => ?_)
  · have hj_4 : (Int32.toNatClampNeg (S.1 0 1)) < 5 := jIn_lt c_4
    refine g_astore_n C dX3_use_7 [_, _, _, _] (Nat.le_of_ble_eq_true rfl) rfl rfl 8 rfl ?_
    refine g_aload_n C dX3_use_8 rfl 9 rfl ?_
    refine g_nonnull C dX3_use_9 19 (by decide) ?_
    refine g_iload_n C dX3_use_19 rfl 20 rfl ?_
    refine g_iconst C dX3_use_20 1 ic_1 21 rfl ?_
    refine g_icmp_ge C dX3_use_21 hR 31 24 (by decide) rfl (fun c_21 hR => ?_) (fun c_21 hR => ?_)
    · refine g_aload_n C dX3_use_31 rfl 32 rfl ?_
      refine g_getN (v := .int (S.1 7 (Int32.toNatClampNeg (S.1 0 1)))) C (hiC hiA_0) (7 + (Int32.toNatClampNeg (S.1 0 1))) (wC_jug hj_4) rfl 2 (by decide) (List.mem_of_getElem? (i := 3) rfl) rfl rfl dX3_use_32 35 rfl ?_
      refine g_iload_n C dX3_use_35 rfl 36 rfl ?_
      refine g_isub C dX3_use_36 37 rfl ?_
      refine g_istore_n C dX3_use_37 [_, _, _, _] (Nat.le_of_ble_eq_true rfl) rfl rfl 38 rfl ?_
      refine g_aload_n C dX3_use_38 rfl 39 rfl ?_
      refine g_get (v := .ref (b 1)) C (hiC hiA_3) 0 rfl rfl 0 (by decide) (List.mem_cons_of_mem _ wl_15) rfl rfl dX3_use_39 42 rfl ?_
      refine g_iload_n C dX3_use_42 rfl 43 rfl ?_
      obtain ⟨v1, hv1, hR⟩ := opt_b hR
      refine g_callI C (rn_VN C (k_X1_takeCupsp l g (fun i => b (1 + i)) (y 0) (kR S.1 0) p0 N_ v1 hv1) ⟨va_cnB 1 C.1.2.2.2.2 (gdA wl_202) rfl rfl rfl (nst C (List.mem_of_getElem? (i := 7) rfl)) (C.1.2.2.2.2 _ (List.mem_cons_of_mem _ wl_14)) hd_X1_takeCups.2 ⟨Nat.le_of_ble_eq_true rfl, Nat.le_of_ble_eq_true rfl⟩, C.1.2.2.2.2 _ (List.mem_cons_of_mem _ wl_200), C.1.2.2.2.2 _ (List.mem_cons_of_mem _ wl_201)⟩ 1 rfl rfl [1, 2, 3, 4, 5, 6, 7, 8, 9, 10, 11] (wC_k0) rfl rfl rfl (Nat.le_of_ble_eq_true rfl) ⟨Nat.zero_le _, Nat.zero_le _⟩ dX3_use_43) (wC g b (yP y 0 v1.2.1) ((kP S.1 0 v1.2.2), S.2)) wC_py0 rfl 46 rfl ?_
      refine g_if_eq C dX3_use_46 hR 53 49 (by decide) rfl (fun c_46 hR => ?_) (fun c_46 hR => ?_)
      · refine g_aload_n C dX3_use_53 rfl 54 rfl ?_
        refine g_bipush C dX3_use_54 (-6) bp_m6 56 rfl ?_
        refine g_callI C (rn_V C (k_X3_refuse l g b (yP y 0 v1.2.1) ((kP S.1 0 v1.2.2), S.2) (-6)) (cwV 1 C.1.2.2.2.2 (gdV wl_99 wl_96 wl_97 wl_98 wl_2) rfl rfl rfl hd_X3_refuse ⟨Nat.le_of_ble_eq_true rfl, Nat.le_of_ble_eq_true rfl⟩) 0 rfl rfl _ rg_C rg_n rfl rfl (Nat.le_of_ble_eq_true rfl) ⟨Nat.zero_le _, Nat.zero_le _⟩ dX3_use_56) (wC g b (yP y 0 v1.2.1) ((f_X3_refuse ((kP S.1 0 v1.2.2), S.2) (-6)).2)) (rg_put (wC_len.trans wC_len.symm)) (rg_len (wC_len.trans wC_len.symm)) 59 rfl ?_
        obtain rfl := Option.some.inj hR
        exact g_iret C hr hlocks hA (by first | (dsimp only; done) | rfl) (by first | (dsimp only; done) | rfl) dX3_use_59
      · refine g_iload_n C dX3_use_49 rfl 50 rfl ?_
        refine g_goto C dX3_use_50 59 (by decide) ?_
        obtain rfl := Option.some.inj hR
        exact g_iret C hr hlocks hA (by first | (dsimp only; done) | rfl) (by first | (dsimp only; done) | rfl) dX3_use_59
    · refine g_aload_n C dX3_use_24 rfl 25 rfl ?_
      refine g_bipush C dX3_use_25 (-4) bp_m4 27 rfl ?_
      refine g_callI C (rn_V C (k_X3_refuse l g b y S (-4)) (cwV 1 C.1.2.2.2.2 (gdV wl_99 wl_96 wl_97 wl_98 wl_2) rfl rfl rfl hd_X3_refuse ⟨Nat.le_of_ble_eq_true rfl, Nat.le_of_ble_eq_true rfl⟩) 0 rfl rfl _ rg_C rg_n rfl rfl (Nat.le_of_ble_eq_true rfl) ⟨Nat.zero_le _, Nat.zero_le _⟩ dX3_use_27) (wC g b y ((f_X3_refuse S (-4)).2)) (rg_put (wC_len.trans wC_len.symm)) (rg_len (wC_len.trans wC_len.symm)) 30 rfl ?_
      obtain rfl := Option.some.inj hR
      exact g_iret C hr hlocks hA (by first | (dsimp only; done) | rfl) (by first | (dsimp only; done) | rfl) dX3_use_30
  · refine g_astore_nN C dX3_use_7 [_, _, _, _] (Nat.le_of_ble_eq_true rfl) rfl rfl 8 rfl ?_
    refine g_aload_nN C dX3_use_8 rfl 9 rfl ?_
    refine g_nonnullN C dX3_use_9 12 rfl ?_
    refine g_aload_n C dX3_use_12 rfl 13 rfl ?_
    refine g_bipush C dX3_use_13 (-3) bp_m3 15 rfl ?_
    refine g_callI C (rn_V C (k_X3_refuse l g b y S (-3)) (cwV 1 C.1.2.2.2.2 (gdV wl_99 wl_96 wl_97 wl_98 wl_2) rfl rfl rfl hd_X3_refuse ⟨Nat.le_of_ble_eq_true rfl, Nat.le_of_ble_eq_true rfl⟩) 0 rfl rfl _ rg_C rg_n rfl rfl (Nat.le_of_ble_eq_true rfl) ⟨Nat.zero_le _, Nat.zero_le _⟩ dX3_use_15) (wC g b y ((f_X3_refuse S (-3)).2)) (rg_put (wC_len.trans wC_len.symm)) (rg_len (wC_len.trans wC_len.symm)) 18 rfl ?_
    obtain rfl := Option.some.inj hR
    exact g_iret C hr hlocks hA (by first | (dsimp only; done) | rfl) (by first | (dsimp only; done) | rfl) dX3_use_18
theorem hd_X3_statementComes : yX3_statementComes.cls = RX3 ∧ yX3_statementComes.cls ≠ "java/lang/invoke/MethodHandle" ∧ yX3_statementComes.cls ≠ "java/lang/invoke/VarHandle" ∧ (parseMethodDescriptor yX3_statementComes.desc).map (fun d => d.parameters.length) = some 1 := by decide +kernel
def f_X3_statementComes (y : Nat → Nat → Nat) (S : (Nat → Nat → Int32) × (Nat → Nat → Int64)) (p0 : Int32) (N_ : Nat) : Option (Bool × (Nat → Nat → Nat) × ((Nat → Nat → Int32) × (Nat → Nat → Int64))) :=
  if (f_X3_letterAt S p0) = 99 then
    (f_X1_standInCold (kR S.1 1) (f_X3_twoDigitsAt S (p0 + 1)) N_).bind fun v1 =>
    some (true, y, ((kP S.1 1 v1), S.2))
  else
    if (f_X3_letterAt S p0) = 104 then
      some (((f_X1_takeInHand (S.1 10 0) (S.1 10 1) (S.1 10 2) (f_X3_digitAt S (p0 + 1))).1), y, ((kS S.1 10 (upd (upd (S.1 10) 1 ((f_X1_takeInHand (S.1 10 0) (S.1 10 1) (S.1 10 2) (f_X3_digitAt S (p0 + 1))).2.1)) 2 ((f_X1_takeInHand (S.1 10 0) (S.1 10 1) (S.1 10 2) (f_X3_digitAt S (p0 + 1))).2.2))), S.2))
    else
      if (f_X3_letterAt S p0) = 106 then
        some (((f_X1_addJug (kR S.1 1) (f_X3_digitAt S (p0 + 1)) (f_X3_digitAt S (p0 + 2)) (f_X3_digitAt S (p0 + 3)) (((f_X3_digitAt S (p0 + 4)) * 100) + (f_X3_twoDigitsAt S (p0 + 5)))).1), y, ((kP S.1 1 ((f_X1_addJug (kR S.1 1) (f_X3_digitAt S (p0 + 1)) (f_X3_digitAt S (p0 + 2)) (f_X3_digitAt S (p0 + 3)) (((f_X3_digitAt S (p0 + 4)) * 100) + (f_X3_twoDigitsAt S (p0 + 5)))).2)), S.2))
      else
        if (f_X3_letterAt S p0) = 112 then
          some (true, y, ((kS S.1 10 (upd (S.1 10) 3 (f_X3_digitAt S (p0 + 1)))), S.2))
        else
          if (f_X3_letterAt S p0) = 115 then
            some (((f_X1_addSeen (S.1 10 0) (S.1 10 1) (S.1 10 2) (S.1 11) (S.1 12) (f_X3_digitAt S (p0 + 1)) (f_X3_digitAt S (p0 + 2))).1), y, ((kS (kS (kS S.1 10 (upd (S.1 10) 2 ((f_X1_addSeen (S.1 10 0) (S.1 10 1) (S.1 10 2) (S.1 11) (S.1 12) (f_X3_digitAt S (p0 + 1)) (f_X3_digitAt S (p0 + 2))).2.1))) 11 ((f_X1_addSeen (S.1 10 0) (S.1 10 1) (S.1 10 2) (S.1 11) (S.1 12) (f_X3_digitAt S (p0 + 1)) (f_X3_digitAt S (p0 + 2))).2.2.1)) 12 ((f_X1_addSeen (S.1 10 0) (S.1 10 1) (S.1 10 2) (S.1 11) (S.1 12) (f_X3_digitAt S (p0 + 1)) (f_X3_digitAt S (p0 + 2))).2.2.2)), S.2))
          else
            if (f_X3_letterAt S p0) = 116 then
              some (((f_X1_setCost (S.1 13) (f_X3_digitAt S (p0 + 1)) (f_X3_digitAt S (p0 + 2))).1), y, ((kS S.1 13 ((f_X1_setCost (S.1 13) (f_X3_digitAt S (p0 + 1)) (f_X3_digitAt S (p0 + 2))).2)), S.2))
            else
              if (f_X3_letterAt S p0) = 117 then
                (f_X1_takeCupsp (y 1) (kR S.1 1) (f_X3_digitAt S (p0 + 1)) N_).bind fun v2 =>
                some (v2.1, (yP y 1 v2.2.1), ((kP S.1 1 v2.2.2), S.2))
              else
                if (f_X3_letterAt S p0) = 119 then
                  some (((f_X1_standInWarm (kR S.1 1) (f_X3_digitAt S (p0 + 1)) (f_X3_twoDigitsAt S (p0 + 2))).1), y, ((kP S.1 1 ((f_X1_standInWarm (kR S.1 1) (f_X3_digitAt S (p0 + 1)) (f_X3_twoDigitsAt S (p0 + 2))).2)), S.2))
                else
                  some (false, y, S)
set_option maxRecDepth 100000 in
set_option maxHeartbeats 4000000 in
theorem k_X3_statementComes (l : Launch) (g : gE) (b : Nat → Nat) (y : Nat → Nat → Nat) (S : (Nat → Nat → Int32) × (Nat → Nat → Int64)) (p0 : Int32) (N_ : Nat) (R_ : Bool × (Nat → Nat → Nat) × ((Nat → Nat → Int32) × (Nat → Nat → Int64))) (hR : f_X3_statementComes y S p0 N_ = some R_) : FnI l g yX3_statementComes wA_X3_statementComes { frames := 4, cells := 0, slots := 0, locals := 84 } [.ref (b 0), .int p0] (wC g b y S) (b2i R_.1) (wC g b R_.2.1 R_.2.2) := by
  refine fEntry (As := [.ref (b 0), .int p0]) (maxL := 4) (ret := (some .boolean)) (by decide) rfl [some (.ref (b 0)), some (.int p0), none, none] (Nat.le_of_ble_eq_true rfl) (lvInB.to (lvInB.sm (lvInB.sm (lvInB.nn (lvInB.nn lvInB.nil))))) ?_
  intro p e s m below meth c A C hr hlocks hname hA
  have C : Cx p s m _ c g A cX3_statementComes 4 wA_X3_statementComes RX3 := C
  rw [f_X3_statementComes] at hR
  refine g_aload_n C dX3_statementComes_0 rfl 1 rfl ?_
  refine g_iload_n C dX3_statementComes_1 rfl 2 rfl ?_
  refine g_iconst C dX3_statementComes_2 1 ic_1 3 rfl ?_
  refine g_iadd C dX3_statementComes_3 4 rfl ?_
  refine g_callIR C (rn_V C (k_X3_digitAt l g b y S (p0 + 1)) (cwV 1 C.1.2.2.2.2 (gdV wl_161 wl_158 wl_159 wl_160 wl_2) rfl rfl rfl hd_X3_digitAt ⟨Nat.le_of_ble_eq_true rfl, Nat.le_of_ble_eq_true rfl⟩) 0 rfl rfl _ rg_C rg_n rfl rfl (Nat.le_of_ble_eq_true rfl) ⟨Nat.zero_le _, Nat.zero_le _⟩ dX3_statementComes_4) 7 rfl ?_
  refine g_istore_n C dX3_statementComes_7 [_, _, _, _] (Nat.le_of_ble_eq_true rfl) rfl rfl 8 rfl ?_
  refine g_aload_n C dX3_statementComes_8 rfl 9 rfl ?_
  refine g_iload_n C dX3_statementComes_9 rfl 10 rfl ?_
  refine g_iconst C dX3_statementComes_10 2 ic_2 11 rfl ?_
  refine g_iadd C dX3_statementComes_11 12 rfl ?_
  refine g_callIR C (rn_V C (k_X3_digitAt l g b y S (p0 + 2)) (cwV 1 C.1.2.2.2.2 (gdV wl_161 wl_158 wl_159 wl_160 wl_2) rfl rfl rfl hd_X3_digitAt ⟨Nat.le_of_ble_eq_true rfl, Nat.le_of_ble_eq_true rfl⟩) 0 rfl rfl _ rg_C rg_n rfl rfl (Nat.le_of_ble_eq_true rfl) ⟨Nat.zero_le _, Nat.zero_le _⟩ dX3_statementComes_12) 15 rfl ?_
  refine g_istore_n C dX3_statementComes_15 [_, _, _, _] (Nat.le_of_ble_eq_true rfl) rfl rfl 16 rfl ?_
  refine g_aload_n C dX3_statementComes_16 rfl 17 rfl ?_
  refine g_iload_n C dX3_statementComes_17 rfl 18 rfl ?_
  refine g_callIR C (rn_V C (k_X3_letterAt l g b y S p0) (cwV 1 C.1.2.2.2.2 (gdV wl_127 wl_124 wl_125 wl_126 wl_2) rfl rfl rfl hd_X3_letterAt ⟨Nat.le_of_ble_eq_true rfl, Nat.le_of_ble_eq_true rfl⟩) 0 rfl rfl _ rg_C rg_n rfl rfl (Nat.le_of_ble_eq_true rfl) ⟨Nat.zero_le _, Nat.zero_le _⟩ dX3_statementComes_18) 21 rfl ?_
  rcases Decidable.em ((f_X3_letterAt S p0) = 99) with c_21_99 | c_21_99
  · have hR := (if_pos c_21_99).symm.trans hR
    refine g_tableIn C dX3_statementComes_21 99 c_21_99 (134) 155 (by decide) ?_
    refine g_aload_n C dX3_statementComes_155 rfl 156 rfl ?_
    refine g_get (v := .ref (b 7)) C (hiC hiA_3) 0 rfl rfl 1 (by decide) (List.mem_cons_of_mem _ wl_16) rfl rfl dX3_statementComes_156 159 rfl ?_
    refine g_aload_n C dX3_statementComes_159 rfl 160 rfl ?_
    refine g_iload_n C dX3_statementComes_160 rfl 161 rfl ?_
    refine g_iconst C dX3_statementComes_161 1 ic_1 162 rfl ?_
    refine g_iadd C dX3_statementComes_162 163 rfl ?_
    refine g_callIR C (rn_V C (k_X3_twoDigitsAt l g b y S (p0 + 1)) (cwV 1 C.1.2.2.2.2 (gdV wl_165 wl_162 wl_163 wl_164 wl_2) rfl rfl rfl hd_X3_twoDigitsAt ⟨Nat.le_of_ble_eq_true rfl, Nat.le_of_ble_eq_true rfl⟩) 0 rfl rfl _ rg_C rg_n rfl rfl (Nat.le_of_ble_eq_true rfl) ⟨Nat.zero_le _, Nat.zero_le _⟩ dX3_statementComes_163) 166 rfl ?_
    obtain ⟨v1, hv1, hR⟩ := opt_b hR
    refine g_callV C (rn_VN C (k_X1_standInCold l g (fun i => b (7 + i)) (y 1) (kR S.1 1) (f_X3_twoDigitsAt S (p0 + 1)) N_ v1 hv1) ⟨va_cnB 1 C.1.2.2.2.2 (gdA wl_171) rfl rfl rfl (nst C (List.mem_of_getElem? (i := 2) rfl)) (C.1.2.2.2.2 _ (List.mem_cons_of_mem _ wl_14)) hd_X1_standInCold.2 ⟨Nat.le_of_ble_eq_true rfl, Nat.le_of_ble_eq_true rfl⟩, C.1.2.2.2.2 _ (List.mem_cons_of_mem _ wl_169), C.1.2.2.2.2 _ (List.mem_cons_of_mem _ wl_170)⟩ 12 rfl rfl [12, 13, 14, 15, 16, 17, 18, 19, 20, 21, 22] (wC_k1) rfl rfl rfl (Nat.le_of_ble_eq_true rfl) ⟨Nat.zero_le _, Nat.zero_le _⟩ dX3_statementComes_166) (wC g b y ((kP S.1 1 v1), S.2)) wC_p1 rfl 169 rfl ?_
    refine g_iconst C dX3_statementComes_169 1 ic_1 170 rfl ?_
    obtain rfl := Option.some.inj hR
    exact g_zret C hr hlocks (by decide) hA rfl (by first | (dsimp only; done) | rfl) dX3_statementComes_170
  · have hR := (if_neg c_21_99).symm.trans hR
    rcases Decidable.em ((f_X3_letterAt S p0) = 104) with c_21_104 | c_21_104
    · have hR := (if_pos c_21_104).symm.trans hR
      refine g_tableIn C dX3_statementComes_21 104 c_21_104 (186) 207 (by decide) ?_
      refine g_aload_n C dX3_statementComes_207 rfl 208 rfl ?_
      refine g_get (v := .ref (b 7)) C (hiC hiA_3) 0 rfl rfl 1 (by decide) (List.mem_cons_of_mem _ wl_16) rfl rfl dX3_statementComes_208 211 rfl ?_
      refine g_iload_n C dX3_statementComes_211 rfl 212 rfl ?_
      refine g_callI C (rn_VN C (k_X1_takeInHand l g (b 7) (b 8) (b 9) (b 10) (b 11) (b 12) (S.1 10 0) (S.1 10 1) (S.1 10 2) (S.1 10 3) (S.1 10 4) (y 1) (f_X3_digitAt S (p0 + 1))) ⟨va_cnB 1 C.1.2.2.2.2 (gdA wl_192) rfl rfl rfl (nst C (List.mem_of_getElem? (i := 5) rfl)) (C.1.2.2.2.2 _ (List.mem_cons_of_mem _ wl_14)) hd_X1_takeInHand.2 ⟨Nat.le_of_ble_eq_true rfl, Nat.le_of_ble_eq_true rfl⟩, C.1.2.2.2.2 _ (List.mem_cons_of_mem _ wl_190), C.1.2.2.2.2 _ (List.mem_cons_of_mem _ wl_191)⟩ 12 rfl rfl [12, 13] rfl rfl rfl rfl (Nat.le_of_ble_eq_true rfl) ⟨Nat.zero_le _, Nat.zero_le _⟩ dX3_statementComes_212) (wC g b y ((kS S.1 10 (upd (upd (S.1 10) 1 ((f_X1_takeInHand (S.1 10 0) (S.1 10 1) (S.1 10 2) (f_X3_digitAt S (p0 + 1))).2.1)) 2 ((f_X1_takeInHand (S.1 10 0) (S.1 10 1) (S.1 10 2) (f_X3_digitAt S (p0 + 1))).2.2))), S.2)) rfl rfl 215 rfl ?_
      obtain rfl := Option.some.inj hR
      exact g_zret C hr hlocks (b2i_nar _) hA rfl (by first | (dsimp only; done) | rfl) dX3_statementComes_215
    · have hR := (if_neg c_21_104).symm.trans hR
      rcases Decidable.em ((f_X3_letterAt S p0) = 106) with c_21_106 | c_21_106
      · have hR := (if_pos c_21_106).symm.trans hR
        refine g_tableIn C dX3_statementComes_21 106 c_21_106 (99) 120 (by decide) ?_
        refine g_aload_n C dX3_statementComes_120 rfl 121 rfl ?_
        refine g_get (v := .ref (b 7)) C (hiC hiA_3) 0 rfl rfl 1 (by decide) (List.mem_cons_of_mem _ wl_16) rfl rfl dX3_statementComes_121 124 rfl ?_
        refine g_iload_n C dX3_statementComes_124 rfl 125 rfl ?_
        refine g_iload_n C dX3_statementComes_125 rfl 126 rfl ?_
        refine g_aload_n C dX3_statementComes_126 rfl 127 rfl ?_
        refine g_iload_n C dX3_statementComes_127 rfl 128 rfl ?_
        refine g_iconst C dX3_statementComes_128 3 ic_3 129 rfl ?_
        refine g_iadd C dX3_statementComes_129 130 rfl ?_
        refine g_callIR C (rn_V C (k_X3_digitAt l g b y S (p0 + 3)) (cwV 1 C.1.2.2.2.2 (gdV wl_161 wl_158 wl_159 wl_160 wl_2) rfl rfl rfl hd_X3_digitAt ⟨Nat.le_of_ble_eq_true rfl, Nat.le_of_ble_eq_true rfl⟩) 0 rfl rfl _ rg_C rg_n rfl rfl (Nat.le_of_ble_eq_true rfl) ⟨Nat.zero_le _, Nat.zero_le _⟩ dX3_statementComes_130) 133 rfl ?_
        refine g_aload_n C dX3_statementComes_133 rfl 134 rfl ?_
        refine g_iload_n C dX3_statementComes_134 rfl 135 rfl ?_
        refine g_iconst C dX3_statementComes_135 4 ic_4 136 rfl ?_
        refine g_iadd C dX3_statementComes_136 137 rfl ?_
        refine g_callIR C (rn_V C (k_X3_digitAt l g b y S (p0 + 4)) (cwV 1 C.1.2.2.2.2 (gdV wl_161 wl_158 wl_159 wl_160 wl_2) rfl rfl rfl hd_X3_digitAt ⟨Nat.le_of_ble_eq_true rfl, Nat.le_of_ble_eq_true rfl⟩) 0 rfl rfl _ rg_C rg_n rfl rfl (Nat.le_of_ble_eq_true rfl) ⟨Nat.zero_le _, Nat.zero_le _⟩ dX3_statementComes_137) 140 rfl ?_
        refine g_bipush C dX3_statementComes_140 100 bp_100 142 rfl ?_
        refine g_imul C dX3_statementComes_142 143 rfl ?_
        refine g_aload_n C dX3_statementComes_143 rfl 144 rfl ?_
        refine g_iload_n C dX3_statementComes_144 rfl 145 rfl ?_
        refine g_iconst C dX3_statementComes_145 5 ic_5 146 rfl ?_
        refine g_iadd C dX3_statementComes_146 147 rfl ?_
        refine g_callIR C (rn_V C (k_X3_twoDigitsAt l g b y S (p0 + 5)) (cwV 1 C.1.2.2.2.2 (gdV wl_165 wl_162 wl_163 wl_164 wl_2) rfl rfl rfl hd_X3_twoDigitsAt ⟨Nat.le_of_ble_eq_true rfl, Nat.le_of_ble_eq_true rfl⟩) 0 rfl rfl _ rg_C rg_n rfl rfl (Nat.le_of_ble_eq_true rfl) ⟨Nat.zero_le _, Nat.zero_le _⟩ dX3_statementComes_147) 150 rfl ?_
        refine g_iadd C dX3_statementComes_150 151 rfl ?_
        refine g_callI C (rn_VN C (k_X1_addJug l g (fun i => b (7 + i)) (y 1) (kR S.1 1) (f_X3_digitAt S (p0 + 1)) (f_X3_digitAt S (p0 + 2)) (f_X3_digitAt S (p0 + 3)) (((f_X3_digitAt S (p0 + 4)) * 100) + (f_X3_twoDigitsAt S (p0 + 5)))) ⟨va_cnB 4 C.1.2.2.2.2 (gdA wl_168) rfl rfl rfl (nst C (List.mem_of_getElem? (i := 1) rfl)) (C.1.2.2.2.2 _ (List.mem_cons_of_mem _ wl_14)) hd_X1_addJug.2 ⟨Nat.le_of_ble_eq_true rfl, Nat.le_of_ble_eq_true rfl⟩, C.1.2.2.2.2 _ (List.mem_cons_of_mem _ wl_166), C.1.2.2.2.2 _ (List.mem_cons_of_mem _ wl_167)⟩ 12 rfl rfl [12, 13, 14, 15, 16, 17, 18, 19, 20, 21, 22] (wC_k1) rfl rfl rfl (Nat.le_of_ble_eq_true rfl) ⟨Nat.zero_le _, Nat.zero_le _⟩ dX3_statementComes_151) (wC g b y ((kP S.1 1 ((f_X1_addJug (kR S.1 1) (f_X3_digitAt S (p0 + 1)) (f_X3_digitAt S (p0 + 2)) (f_X3_digitAt S (p0 + 3)) (((f_X3_digitAt S (p0 + 4)) * 100) + (f_X3_twoDigitsAt S (p0 + 5)))).2)), S.2)) wC_p1 rfl 154 rfl ?_
        obtain rfl := Option.some.inj hR
        exact g_zret C hr hlocks (b2i_nar _) hA rfl (by first | (dsimp only; done) | rfl) dX3_statementComes_154
      · have hR := (if_neg c_21_106).symm.trans hR
        rcases Decidable.em ((f_X3_letterAt S p0) = 112) with c_21_112 | c_21_112
        · have hR := (if_pos c_21_112).symm.trans hR
          refine g_tableIn C dX3_statementComes_21 112 c_21_112 (176) 197 (by decide) ?_
          refine g_aload_n C dX3_statementComes_197 rfl 198 rfl ?_
          refine g_get (v := .ref (b 7)) C (hiC hiA_3) 0 rfl rfl 1 (by decide) (List.mem_cons_of_mem _ wl_16) rfl rfl dX3_statementComes_198 201 rfl ?_
          refine g_iload_n C dX3_statementComes_201 rfl 202 rfl ?_
          refine g_putN C (hiC hiA_1) tyX1 tyX1_ok nmX1 12 rfl rfl 7 (by decide) (List.mem_of_getElem? (i := 0) rfl) rfl rfl rfl rfl (Nat.le_of_ble_eq_true rfl) dX3_statementComes_202 (wC g b y ((kS S.1 10 (upd (S.1 10) 3 (f_X3_digitAt S (p0 + 1)))), S.2)) rfl 205 rfl ?_
          refine g_iconst C dX3_statementComes_205 1 ic_1 206 rfl ?_
          obtain rfl := Option.some.inj hR
          exact g_zret C hr hlocks (by decide) hA rfl (by first | (dsimp only; done) | rfl) dX3_statementComes_206
        · have hR := (if_neg c_21_112).symm.trans hR
          rcases Decidable.em ((f_X3_letterAt S p0) = 115) with c_21_115 | c_21_115
          · have hR := (if_pos c_21_115).symm.trans hR
            refine g_tableIn C dX3_statementComes_21 115 c_21_115 (195) 216 (by decide) ?_
            refine g_aload_n C dX3_statementComes_216 rfl 217 rfl ?_
            refine g_get (v := .ref (b 7)) C (hiC hiA_3) 0 rfl rfl 1 (by decide) (List.mem_cons_of_mem _ wl_16) rfl rfl dX3_statementComes_217 220 rfl ?_
            refine g_iload_n C dX3_statementComes_220 rfl 221 rfl ?_
            refine g_iload_n C dX3_statementComes_221 rfl 222 rfl ?_
            refine g_callI C (rn_VN C (k_X1_addSeen l g (b 7) (b 8) (b 9) (b 10) (b 11) (b 12) (S.1 10 0) (S.1 10 1) (S.1 10 2) (S.1 10 3) (S.1 10 4) (y 1) (S.1 11) (S.1 12) (f_X3_digitAt S (p0 + 1)) (f_X3_digitAt S (p0 + 2))) ⟨va_cnB 2 C.1.2.2.2.2 (gdA wl_195) rfl rfl rfl (nst C (List.mem_of_getElem? (i := 6) rfl)) (C.1.2.2.2.2 _ (List.mem_cons_of_mem _ wl_14)) hd_X1_addSeen.2 ⟨Nat.le_of_ble_eq_true rfl, Nat.le_of_ble_eq_true rfl⟩, C.1.2.2.2.2 _ (List.mem_cons_of_mem _ wl_193), C.1.2.2.2.2 _ (List.mem_cons_of_mem _ wl_194)⟩ 12 rfl rfl [12, 13, 14, 15] rfl rfl rfl rfl (Nat.le_of_ble_eq_true rfl) ⟨Nat.zero_le _, Nat.zero_le _⟩ dX3_statementComes_222) (wC g b y ((kS (kS (kS S.1 10 (upd (S.1 10) 2 ((f_X1_addSeen (S.1 10 0) (S.1 10 1) (S.1 10 2) (S.1 11) (S.1 12) (f_X3_digitAt S (p0 + 1)) (f_X3_digitAt S (p0 + 2))).2.1))) 11 ((f_X1_addSeen (S.1 10 0) (S.1 10 1) (S.1 10 2) (S.1 11) (S.1 12) (f_X3_digitAt S (p0 + 1)) (f_X3_digitAt S (p0 + 2))).2.2.1)) 12 ((f_X1_addSeen (S.1 10 0) (S.1 10 1) (S.1 10 2) (S.1 11) (S.1 12) (f_X3_digitAt S (p0 + 1)) (f_X3_digitAt S (p0 + 2))).2.2.2)), S.2)) rfl rfl 225 rfl ?_
            obtain rfl := Option.some.inj hR
            exact g_zret C hr hlocks (b2i_nar _) hA rfl (by first | (dsimp only; done) | rfl) dX3_statementComes_225
          · have hR := (if_neg c_21_115).symm.trans hR
            rcases Decidable.em ((f_X3_letterAt S p0) = 116) with c_21_116 | c_21_116
            · have hR := (if_pos c_21_116).symm.trans hR
              refine g_tableIn C dX3_statementComes_21 116 c_21_116 (166) 187 (by decide) ?_
              refine g_aload_n C dX3_statementComes_187 rfl 188 rfl ?_
              refine g_get (v := .ref (b 7)) C (hiC hiA_3) 0 rfl rfl 1 (by decide) (List.mem_cons_of_mem _ wl_16) rfl rfl dX3_statementComes_188 191 rfl ?_
              refine g_iload_n C dX3_statementComes_191 rfl 192 rfl ?_
              refine g_iload_n C dX3_statementComes_192 rfl 193 rfl ?_
              refine g_callI C (rn_VN C (k_X1_setCost l g (b 7) (b 8) (b 9) (b 10) (b 11) (b 12) (S.1 10 0) (S.1 10 1) (S.1 10 2) (S.1 10 3) (S.1 10 4) (S.1 13) (f_X3_digitAt S (p0 + 1)) (f_X3_digitAt S (p0 + 2))) ⟨va_cnB 2 C.1.2.2.2.2 (gdA wl_189) rfl rfl rfl (nst C (List.mem_of_getElem? (i := 4) rfl)) (C.1.2.2.2.2 _ (List.mem_cons_of_mem _ wl_14)) hd_X1_setCost.2 ⟨Nat.le_of_ble_eq_true rfl, Nat.le_of_ble_eq_true rfl⟩, C.1.2.2.2.2 _ (List.mem_cons_of_mem _ wl_187), C.1.2.2.2.2 _ (List.mem_cons_of_mem _ wl_188)⟩ 12 rfl rfl [12, 16] rfl rfl rfl rfl (Nat.le_of_ble_eq_true rfl) ⟨Nat.zero_le _, Nat.zero_le _⟩ dX3_statementComes_193) (wC g b y ((kS S.1 13 ((f_X1_setCost (S.1 13) (f_X3_digitAt S (p0 + 1)) (f_X3_digitAt S (p0 + 2))).2)), S.2)) rfl rfl 196 rfl ?_
              obtain rfl := Option.some.inj hR
              exact g_zret C hr hlocks (b2i_nar _) hA rfl (by first | (dsimp only; done) | rfl) dX3_statementComes_196
            · have hR := (if_neg c_21_116).symm.trans hR
              rcases Decidable.em ((f_X3_letterAt S p0) = 117) with c_21_117 | c_21_117
              · have hR := (if_pos c_21_117).symm.trans hR
                refine g_tableIn C dX3_statementComes_21 117 c_21_117 (205) 226 (by decide) ?_
                refine g_aload_n C dX3_statementComes_226 rfl 227 rfl ?_
                refine g_get (v := .ref (b 7)) C (hiC hiA_3) 0 rfl rfl 1 (by decide) (List.mem_cons_of_mem _ wl_16) rfl rfl dX3_statementComes_227 230 rfl ?_
                refine g_iload_n C dX3_statementComes_230 rfl 231 rfl ?_
                obtain ⟨v2, hv2, hR⟩ := opt_b hR
                refine g_callI C (rn_VN C (k_X1_takeCupsp l g (fun i => b (7 + i)) (y 1) (kR S.1 1) (f_X3_digitAt S (p0 + 1)) N_ v2 hv2) ⟨va_cnB 1 C.1.2.2.2.2 (gdA wl_202) rfl rfl rfl (nst C (List.mem_of_getElem? (i := 7) rfl)) (C.1.2.2.2.2 _ (List.mem_cons_of_mem _ wl_14)) hd_X1_takeCups.2 ⟨Nat.le_of_ble_eq_true rfl, Nat.le_of_ble_eq_true rfl⟩, C.1.2.2.2.2 _ (List.mem_cons_of_mem _ wl_200), C.1.2.2.2.2 _ (List.mem_cons_of_mem _ wl_201)⟩ 12 rfl rfl [12, 13, 14, 15, 16, 17, 18, 19, 20, 21, 22] (wC_k1) rfl rfl rfl (Nat.le_of_ble_eq_true rfl) ⟨Nat.zero_le _, Nat.zero_le _⟩ dX3_statementComes_231) (wC g b (yP y 1 v2.2.1) ((kP S.1 1 v2.2.2), S.2)) wC_py1 rfl 234 rfl ?_
                obtain rfl := Option.some.inj hR
                exact g_zret C hr hlocks (b2i_nar _) hA rfl (by first | (dsimp only; done) | rfl) dX3_statementComes_234
              · have hR := (if_neg c_21_117).symm.trans hR
                rcases Decidable.em ((f_X3_letterAt S p0) = 119) with c_21_119 | c_21_119
                · have hR := (if_pos c_21_119).symm.trans hR
                  refine g_tableIn C dX3_statementComes_21 119 c_21_119 (150) 171 (by decide) ?_
                  refine g_aload_n C dX3_statementComes_171 rfl 172 rfl ?_
                  refine g_get (v := .ref (b 7)) C (hiC hiA_3) 0 rfl rfl 1 (by decide) (List.mem_cons_of_mem _ wl_16) rfl rfl dX3_statementComes_172 175 rfl ?_
                  refine g_iload_n C dX3_statementComes_175 rfl 176 rfl ?_
                  refine g_aload_n C dX3_statementComes_176 rfl 177 rfl ?_
                  refine g_iload_n C dX3_statementComes_177 rfl 178 rfl ?_
                  refine g_iconst C dX3_statementComes_178 2 ic_2 179 rfl ?_
                  refine g_iadd C dX3_statementComes_179 180 rfl ?_
                  refine g_callIR C (rn_V C (k_X3_twoDigitsAt l g b y S (p0 + 2)) (cwV 1 C.1.2.2.2.2 (gdV wl_165 wl_162 wl_163 wl_164 wl_2) rfl rfl rfl hd_X3_twoDigitsAt ⟨Nat.le_of_ble_eq_true rfl, Nat.le_of_ble_eq_true rfl⟩) 0 rfl rfl _ rg_C rg_n rfl rfl (Nat.le_of_ble_eq_true rfl) ⟨Nat.zero_le _, Nat.zero_le _⟩ dX3_statementComes_180) 183 rfl ?_
                  refine g_callI C (rn_VN C (k_X1_standInWarm l g (fun i => b (7 + i)) (y 1) (kR S.1 1) (f_X3_digitAt S (p0 + 1)) (f_X3_twoDigitsAt S (p0 + 2))) ⟨va_cnB 2 C.1.2.2.2.2 (gdA wl_183) rfl rfl rfl (nst C (List.mem_of_getElem? (i := 3) rfl)) (C.1.2.2.2.2 _ (List.mem_cons_of_mem _ wl_14)) hd_X1_standInWarm.2 ⟨Nat.le_of_ble_eq_true rfl, Nat.le_of_ble_eq_true rfl⟩, C.1.2.2.2.2 _ (List.mem_cons_of_mem _ wl_181), C.1.2.2.2.2 _ (List.mem_cons_of_mem _ wl_182)⟩ 12 rfl rfl [12, 13, 14, 15, 16, 17, 18, 19, 20, 21, 22] (wC_k1) rfl rfl rfl (Nat.le_of_ble_eq_true rfl) ⟨Nat.zero_le _, Nat.zero_le _⟩ dX3_statementComes_183) (wC g b y ((kP S.1 1 ((f_X1_standInWarm (kR S.1 1) (f_X3_digitAt S (p0 + 1)) (f_X3_twoDigitsAt S (p0 + 2))).2)), S.2)) wC_p1 rfl 186 rfl ?_
                  obtain rfl := Option.some.inj hR
                  exact g_zret C hr hlocks (b2i_nar _) hA rfl (by first | (dsimp only; done) | rfl) dX3_statementComes_186
                · have hR := (if_neg c_21_119).symm.trans hR
                  refine g_tableD C dX3_statementComes_21 [99, 104, 106, 112, 115, 116, 117, 119] (ne_c c_21_99 (ne_c c_21_104 (ne_c c_21_106 (ne_c c_21_112 (ne_c c_21_115 (ne_c c_21_116 (ne_c c_21_117 (ne_c c_21_119 ne_n)))))))) (by decide +kernel) (by decide +kernel) 235 (by decide) ?_
                  refine g_iconst C dX3_statementComes_235 0 ic_0 236 rfl ?_
                  obtain rfl := Option.some.inj hR
                  exact g_zret C hr hlocks (by decide) hA rfl (by first | (dsimp only; done) | rfl) dX3_statementComes_236
theorem hd_X3_kitchen : yX3_kitchen.cls = RX3 ∧ yX3_kitchen.cls ≠ "java/lang/invoke/MethodHandle" ∧ yX3_kitchen.cls ≠ "java/lang/invoke/VarHandle" ∧ (parseMethodDescriptor yX3_kitchen.desc).map (fun d => d.parameters.length) = some 0 := by decide +kernel
def f_X3_kitchen_L42 (x1 : Int32) (N_ : Nat) : Nat → Int32 → Int32 → (Nat → Nat → Nat) → ((Nat → Nat → Int32) × (Nat → Nat → Int64)) → Option ((Int32 × (Nat → Nat → Nat) × ((Nat → Nat → Int32) × (Nat → Nat → Int64))) ⊕ (Int32 × Int32 × (Nat → Nat → Nat) × ((Nat → Nat → Int32) × (Nat → Nat → Int64))))
  | 0, _, _, _, _ => none
  | n_ + 1, x3, x4, y, S =>
    if x1 ≤ x4 then
      some (.inr (x3, x4, y, S))
    else
      (f_X3_statementComes y S x4 N_).bind fun v7 =>
      if (b2i v7.1) = 0 then
        some (.inl (((-2000) - x4), v7.2.1, v7.2.2))
      else
        (some ((x4 + ((if (0 : Int32) < (f_X3_digitsOf (f_X3_letterAt v7.2.2 x4)) then (f_X3_digitsOf (f_X3_letterAt v7.2.2 x4)) else (0 : Int32)) + 2)) : Int32)).bind fun v8 =>
        f_X3_kitchen_L42 x1 N_ n_ (x3 + 1) v8 v7.2.1 v7.2.2
set_option maxRecDepth 100000 in
set_option maxHeartbeats 4000000 in
theorem k_X3_kitchen_L42 (l : Launch) (g : gE) {p : Program} {e : Env} {s : State} {m : MethodId} {args : Array Value} {below : List Frame} {meth : Method} {c : Code} {Q : State → Prop} {A : Nat → Prop} {wc0 : va_W} {b : Nat → Nat}  (C : Cx p s m args c g A cX3_kitchen 5 wA_X3_kitchen RX3) (hr : meth.sig.returnType = some .int) (hlocks : meth.locks = false) (hA : va_A wc0 s.heap.size = A) (N_ : Nat) (x1 : Int32) (x2 : Int32) : ∀ (n_ : Nat) (x3 : Int32) (x4 : Int32) (y : Nat → Nat → Nat) (S : (Nat → Nat → Int32) × (Nat → Nat → Int64)) (rv_ : (Int32 × (Nat → Nat → Nat) × ((Nat → Nat → Int32) × (Nat → Nat → Int64))) ⊕ (Int32 × Int32 × (Nat → Nat → Nat) × ((Nat → Nat → Int32) × (Nat → Nat → Int64)))), f_X3_kitchen_L42 x1 N_ n_ x3 x4 y S = some rv_ → (∀ v_, rv_ = .inr v_ → Gm p l e (headSpec wA_X3_kitchen ({ frames := 5, cells := 0, slots := 0, locals := 107 } : Room)).room s m args below meth c Q g A 5 0 0 (wC g b v_.2.2.1 v_.2.2.2) [some (.ref (b 0)), some (.int x1), some (.int x2), some (.int v_.1), some (.int v_.2.1)] [] 90) → (∀ r_, rv_ = .inl r_ → Q = MQ below (qI g wc0 r_.1 (wC g b r_.2.1 r_.2.2) s.heap.size) args s 0 0 A) → Gm p l e (headSpec wA_X3_kitchen ({ frames := 5, cells := 0, slots := 0, locals := 107 } : Room)).room s m args below meth c Q g A 5 0 0 (wC g b y S) [some (.ref (b 0)), some (.int x1), some (.int x2), some (.int x3), some (.int x4)] [] 42 := by
  intro n_
  induction n_ with
  | zero =>
    intro x3 x4 y S rv_ hR
    simp [f_X3_kitchen_L42] at hR
  | succ n_ ih =>
    intro x3 x4 y S rv_ hR hk hq
    rw [f_X3_kitchen_L42] at hR
    refine g_iload C dX3_kitchen_42 rfl 44 rfl ?_
    refine g_iload_n C dX3_kitchen_44 rfl 45 rfl ?_
    refine g_icmp_ge C dX3_kitchen_45 hR 90 48 (by decide) rfl (fun c_45 hR => ?_) (fun c_45 hR => ?_)
    · obtain rfl := Option.some.inj hR
      refine g_lv [some (.ref (b 0)), some (.int x1), some (.int x2), some (.int x3), some (.int x4)] (lvLe.sm (lvLe.sm (lvLe.sm (lvLe.sm (lvLe.sm lvLe.nil))))) ?_
      exact hk _ rfl
    · refine g_aload_n C dX3_kitchen_48 rfl 49 rfl ?_
      refine g_iload C dX3_kitchen_49 rfl 51 rfl ?_
      obtain ⟨v7, hv7, hR⟩ := opt_b hR
      refine g_callI C (rn_V C (k_X3_statementComes l g b y S x4 N_ v7 hv7) (cwV 1 C.1.2.2.2.2 (gdV wl_157 wl_154 wl_155 wl_156 wl_2) rfl rfl rfl hd_X3_statementComes ⟨Nat.le_of_ble_eq_true rfl, Nat.le_of_ble_eq_true rfl⟩) 0 rfl rfl _ rg_C rg_n rfl rfl (Nat.le_of_ble_eq_true rfl) ⟨Nat.zero_le _, Nat.zero_le _⟩ dX3_kitchen_51) (wC g b v7.2.1 v7.2.2) (rg_put (wC_len.trans wC_len.symm)) (rg_len (wC_len.trans wC_len.symm)) 54 rfl ?_
      refine g_if_ne C dX3_kitchen_54 hR 64 57 (by decide) rfl (fun c_54 hR => ?_) (fun c_54 hR => ?_)
      · refine g_iinc C dX3_kitchen_64 rfl 1 ic_1 [_, _, _, _, _] (Nat.le_of_ble_eq_true rfl) rfl rfl 67 rfl ?_
        refine g_iload C dX3_kitchen_67 rfl 69 rfl ?_
        refine g_iconst C dX3_kitchen_69 0 ic_0 70 rfl ?_
        refine g_aload_n C dX3_kitchen_70 rfl 71 rfl ?_
        refine g_iload C dX3_kitchen_71 rfl 73 rfl ?_
        refine g_callIR C (rn_V C (k_X3_letterAt l g b v7.2.1 v7.2.2 x4) (cwV 1 C.1.2.2.2.2 (gdV wl_127 wl_124 wl_125 wl_126 wl_2) rfl rfl rfl hd_X3_letterAt ⟨Nat.le_of_ble_eq_true rfl, Nat.le_of_ble_eq_true rfl⟩) 0 rfl rfl _ rg_C rg_n rfl rfl (Nat.le_of_ble_eq_true rfl) ⟨Nat.zero_le _, Nat.zero_le _⟩ dX3_kitchen_73) 76 rfl ?_
        refine g_callIR C (rn_S C (k_X3_digitsOf l g (f_X3_letterAt v7.2.2 x4)) (va_cwS 1 C.1.2.2.2.2 (gdS wl_133 wl_131 wl_132 wl_2) rfl rfl rfl hd_X3_digitsOf.2 ⟨Nat.le_of_ble_eq_true rfl, Nat.le_of_ble_eq_true rfl⟩) [] rfl rfl rfl rfl (Nat.le_of_ble_eq_true rfl) ⟨Nat.zero_le _, Nat.zero_le _⟩ dX3_kitchen_76) 79 rfl ?_
        refine g_max C (List.mem_cons_of_mem _ wl_116) (List.mem_cons_of_mem _ wl_117) (List.mem_cons_of_mem _ wl_118) (List.mem_cons_of_mem _ wl_119) (Nat.le_of_ble_eq_true rfl) (Nat.le_of_ble_eq_true rfl) ⟨Nat.zero_le _, Nat.zero_le _⟩ dX3_kitchen_79 82 rfl ?_
        refine g_iconst C dX3_kitchen_82 2 ic_2 83 rfl ?_
        refine g_iadd C dX3_kitchen_83 84 rfl ?_
        refine g_iadd C dX3_kitchen_84 85 rfl ?_
        obtain ⟨v8, hv8, hR⟩ := opt_b hR
        refine g_topI (Option.some.inj hv8) ?_
        refine g_istore C dX3_kitchen_85 [_, _, _, _, _] (Nat.le_of_ble_eq_true rfl) rfl rfl 87 rfl ?_
        refine g_goto C dX3_kitchen_87 42 (by decide) ?_
        refine g_lv [some (.ref (b 0)), some (.int x1), some (.int x2), some (.int (x3 + 1)), some (.int v8)] (lvLe.sm (lvLe.sm (lvLe.sm (lvLe.sm (lvLe.sm lvLe.nil))))) ?_
        exact ih _ _ _ _ rv_ hR hk hq
      · refine g_sipush C dX3_kitchen_57 (-2000) sp_m2000 60 rfl ?_
        refine g_iload C dX3_kitchen_60 rfl 62 rfl ?_
        refine g_isub C dX3_kitchen_62 63 rfl ?_
        obtain rfl := Option.some.inj hR
        rw [hq _ rfl]
        exact g_iret C hr hlocks hA (by first | (dsimp only; done) | rfl) (by first | (dsimp only; done) | rfl) dX3_kitchen_63
def f_X3_kitchen (y : Nat → Nat → Nat) (S : (Nat → Nat → Int32) × (Nat → Nat → Int64)) (N_ : Nat) : Option (Int32 × (Nat → Nat → Nat) × ((Nat → Nat → Int32) × (Nat → Nat → Int64))) :=
  (f_X3_firstBadLetter S (S.1 30 1) N_).bind fun v1 =>
  if v1 < 0 then
    (f_X1_copyFrom (kR (kS S.1 30 (upd (S.1 30) 1 0)) 1) (kR (kS S.1 30 (upd (S.1 30) 1 0)) 0) N_).bind fun v2 =>
    (f_X3_kitchen_L42 (S.1 30 1) N_ N_ 0 0 y ((kP (kS S.1 30 (upd (S.1 30) 1 0)) 1 v2), S.2)).bind fun v9 =>
      match v9 with
      | .inl r => some r
      | .inr v10 =>
        (f_X1_copyFrom (kR v10.2.2.2.1 0) (kR v10.2.2.2.1 1) N_).bind fun v11 =>
        some (v10.1, v10.2.2.1, ((kP v10.2.2.2.1 0 v11), v10.2.2.2.2))
  else
    some (((-1000) - v1), y, ((kS S.1 30 (upd (S.1 30) 1 0)), S.2))
set_option maxRecDepth 100000 in
set_option maxHeartbeats 4000000 in
theorem k_X3_kitchen (l : Launch) (g : gE) (b : Nat → Nat) (y : Nat → Nat → Nat) (S : (Nat → Nat → Int32) × (Nat → Nat → Int64)) (N_ : Nat) (R_ : Int32 × (Nat → Nat → Nat) × ((Nat → Nat → Int32) × (Nat → Nat → Int64))) (hR : f_X3_kitchen y S N_ = some R_) : FnI l g yX3_kitchen wA_X3_kitchen { frames := 5, cells := 0, slots := 0, locals := 107 } [.ref (b 0)] (wC g b y S) R_.1 (wC g b R_.2.1 R_.2.2) := by
  refine fEntry (As := [.ref (b 0)]) (maxL := 5) (ret := (some .int)) (by decide) rfl [some (.ref (b 0)), none, none, none, none] (Nat.le_of_ble_eq_true rfl) (lvInB.to (lvInB.sm (lvInB.nn (lvInB.nn (lvInB.nn (lvInB.nn lvInB.nil)))))) ?_
  intro p e s m below meth c A C hr hlocks hname hA
  have C : Cx p s m _ c g A cX3_kitchen 5 wA_X3_kitchen RX3 := C
  rw [f_X3_kitchen] at hR
  refine g_aload_n C dX3_kitchen_0 rfl 1 rfl ?_
  refine g_get (v := .int (S.1 30 1)) C (hiC hiA_3) 0 rfl rfl 5 (by decide) (List.mem_cons_of_mem _ wl_21) rfl rfl dX3_kitchen_1 4 rfl ?_
  refine g_istore_n C dX3_kitchen_4 [_, _, _, _, _] (Nat.le_of_ble_eq_true rfl) rfl rfl 5 rfl ?_
  refine g_aload_n C dX3_kitchen_5 rfl 6 rfl ?_
  refine g_iload_n C dX3_kitchen_6 rfl 7 rfl ?_
  obtain ⟨v1, hv1, hR⟩ := opt_b hR
  refine g_callIR C (rn_V C (k_X3_firstBadLetter l g b y S (S.1 30 1) N_ v1 hv1) (cwV 1 C.1.2.2.2.2 (gdV wl_123 wl_120 wl_121 wl_122 wl_2) rfl rfl rfl hd_X3_firstBadLetter ⟨Nat.le_of_ble_eq_true rfl, Nat.le_of_ble_eq_true rfl⟩) 0 rfl rfl _ rg_C rg_n rfl rfl (Nat.le_of_ble_eq_true rfl) ⟨Nat.zero_le _, Nat.zero_le _⟩ dX3_kitchen_7) 10 rfl ?_
  refine g_istore_n C dX3_kitchen_10 [_, _, _, _, _] (Nat.le_of_ble_eq_true rfl) rfl rfl 11 rfl ?_
  refine g_aload_n C dX3_kitchen_11 rfl 12 rfl ?_
  refine g_iconst C dX3_kitchen_12 0 ic_0 13 rfl ?_
  refine g_put C (hiC hiA_3) tyX3 tyX3_ok nmX3 0 rfl rfl 5 (by decide) (List.mem_cons_of_mem _ wl_21) rfl rfl rfl rfl (Nat.le_of_ble_eq_true rfl) dX3_kitchen_13 (wC g b y ((kS S.1 30 (upd (S.1 30) 1 0)), S.2)) rfl 16 rfl ?_
  refine g_iload_n C dX3_kitchen_16 rfl 17 rfl ?_
  refine g_if_lt C dX3_kitchen_17 hR 26 20 (by decide) rfl (fun c_17 hR => ?_) (fun c_17 hR => ?_)
  · refine g_aload_n C dX3_kitchen_26 rfl 27 rfl ?_
    refine g_get (v := .ref (b 7)) C (hiC hiA_3) 0 rfl rfl 1 (by decide) (List.mem_cons_of_mem _ wl_16) rfl rfl dX3_kitchen_27 30 rfl ?_
    refine g_aload_n C dX3_kitchen_30 rfl 31 rfl ?_
    refine g_get (v := .ref (b 1)) C (hiC hiA_3) 0 rfl rfl 0 (by decide) (List.mem_cons_of_mem _ wl_15) rfl rfl dX3_kitchen_31 34 rfl ?_
    obtain ⟨v2, hv2, hR⟩ := opt_b hR
    refine g_callV C (rn_VN C (k_X1_copyFrom l g (fun i => b (7 + i)) (fun i => b (1 + i)) (y 1) (kR (kS S.1 30 (upd (S.1 30) 1 0)) 1) (y 0) (kR (kS S.1 30 (upd (S.1 30) 1 0)) 0) N_ v2 hv2) ⟨va_cnB 1 C.1.2.2.2.2 (gdA wl_139) rfl rfl rfl (nst C (List.mem_of_getElem? (i := 33) rfl)) (C.1.2.2.2.2 _ (List.mem_cons_of_mem _ wl_14)) hd_X1_copyFrom.2 ⟨Nat.le_of_ble_eq_true rfl, Nat.le_of_ble_eq_true rfl⟩, C.1.2.2.2.2 _ (List.mem_cons_of_mem _ wl_137), C.1.2.2.2.2 _ (List.mem_cons_of_mem _ wl_138)⟩ 12 rfl rfl [12, 13, 14, 15, 16, 17, 18, 19, 20, 21, 22, 1, 2, 3, 4, 5, 6, 7, 8, 9, 10, 11] wC_kk10 rfl rfl rfl (Nat.le_of_ble_eq_true rfl) ⟨Nat.zero_le _, Nat.zero_le _⟩ dX3_kitchen_34) (wC g b y ((kP (kS S.1 30 (upd (S.1 30) 1 0)) 1 v2), S.2)) wC_pp10 rfl 37 rfl ?_
    refine g_iconst C dX3_kitchen_37 0 ic_0 38 rfl ?_
    refine g_istore_n C dX3_kitchen_38 [_, _, _, _, _] (Nat.le_of_ble_eq_true rfl) rfl rfl 39 rfl ?_
    refine g_iconst C dX3_kitchen_39 0 ic_0 40 rfl ?_
    refine g_istore C dX3_kitchen_40 [_, _, _, _, _] (Nat.le_of_ble_eq_true rfl) rfl rfl 42 rfl ?_
    refine g_lv [some (.ref (b 0)), some (.int (S.1 30 1)), some (.int v1), some (.int 0), some (.int 0)] (lvLe.sm (lvLe.sm (lvLe.sm (lvLe.sm (lvLe.sm lvLe.nil))))) ?_
    obtain ⟨v9, hv9, hR⟩ := opt_b hR
    rcases v9 with r_ | v10
    · refine k_X3_kitchen_L42 l g C hr hlocks hA N_ (S.1 30 1) v1 N_ 0 0 y ((kP (kS S.1 30 (upd (S.1 30) 1 0)) 1 v2), S.2) _ hv9 (fun _ h => nomatch h) (fun r h => ?_)
      cases h
      obtain rfl := Option.some.inj hR
      rfl
    · refine k_X3_kitchen_L42 l g C hr hlocks hA N_ (S.1 30 1) v1 N_ 0 0 y ((kP (kS S.1 30 (upd (S.1 30) 1 0)) 1 v2), S.2) _ hv9 (fun _ h => ?_) (fun _ h => nomatch h)
      cases h
      refine g_aload_n C dX3_kitchen_90 rfl 91 rfl ?_
      refine g_get (v := .ref (b 1)) C (hiC hiA_3) 0 rfl rfl 0 (by decide) (List.mem_cons_of_mem _ wl_15) rfl rfl dX3_kitchen_91 94 rfl ?_
      refine g_aload_n C dX3_kitchen_94 rfl 95 rfl ?_
      refine g_get (v := .ref (b 7)) C (hiC hiA_3) 0 rfl rfl 1 (by decide) (List.mem_cons_of_mem _ wl_16) rfl rfl dX3_kitchen_95 98 rfl ?_
      obtain ⟨v11, hv11, hR⟩ := opt_b hR
      refine g_callV C (rn_VN C (k_X1_copyFrom l g (fun i => b (1 + i)) (fun i => b (7 + i)) (v10.2.2.1 0) (kR v10.2.2.2.1 0) (v10.2.2.1 1) (kR v10.2.2.2.1 1) N_ v11 hv11) ⟨va_cnB 1 C.1.2.2.2.2 (gdA wl_139) rfl rfl rfl (nst C (List.mem_of_getElem? (i := 33) rfl)) (C.1.2.2.2.2 _ (List.mem_cons_of_mem _ wl_14)) hd_X1_copyFrom.2 ⟨Nat.le_of_ble_eq_true rfl, Nat.le_of_ble_eq_true rfl⟩, C.1.2.2.2.2 _ (List.mem_cons_of_mem _ wl_137), C.1.2.2.2.2 _ (List.mem_cons_of_mem _ wl_138)⟩ 1 rfl rfl [1, 2, 3, 4, 5, 6, 7, 8, 9, 10, 11, 12, 13, 14, 15, 16, 17, 18, 19, 20, 21, 22] wC_kk01 rfl rfl rfl (Nat.le_of_ble_eq_true rfl) ⟨Nat.zero_le _, Nat.zero_le _⟩ dX3_kitchen_98) (wC g b v10.2.2.1 ((kP v10.2.2.2.1 0 v11), v10.2.2.2.2)) wC_pp01 rfl 101 rfl ?_
      refine g_iload_n C dX3_kitchen_101 rfl 102 rfl ?_
      obtain rfl := Option.some.inj hR
      exact g_iret C hr hlocks hA (by first | (dsimp only; done) | rfl) (by first | (dsimp only; done) | rfl) dX3_kitchen_102
  · refine g_sipush C dX3_kitchen_20 (-1000) sp_m1000 23 rfl ?_
    refine g_iload_n C dX3_kitchen_23 rfl 24 rfl ?_
    refine g_isub C dX3_kitchen_24 25 rfl ?_
    obtain rfl := Option.some.inj hR
    exact g_iret C hr hlocks hA (by first | (dsimp only; done) | rfl) (by first | (dsimp only; done) | rfl) dX3_kitchen_25
theorem hd_X3_image : yX3_image.cls = RX3 ∧ yX3_image.cls ≠ "java/lang/invoke/MethodHandle" ∧ yX3_image.cls ≠ "java/lang/invoke/VarHandle" ∧ (parseMethodDescriptor yX3_image.desc).map (fun d => d.parameters.length) = some 0 := by decide +kernel
def f_X3_image (S : (Nat → Nat → Int32) × (Nat → Nat → Int64)) (N_ : Nat) : Option (Int32 × ((Nat → Nat → Int32) × (Nat → Nat → Int64))) :=
  (f_X1_copyFrom (kR S.1 2) (kR S.1 0) N_).bind fun v1 =>
  some (((kP S.1 2 v1) 0 0), ((kS (kP S.1 2 v1) 30 (upd ((kP S.1 2 v1) 30) 0 1)), S.2))
set_option maxRecDepth 100000 in
set_option maxHeartbeats 4000000 in
theorem k_X3_image (l : Launch) (g : gE) (b : Nat → Nat) (y : Nat → Nat → Nat) (S : (Nat → Nat → Int32) × (Nat → Nat → Int64)) (N_ : Nat) (R_ : Int32 × ((Nat → Nat → Int32) × (Nat → Nat → Int64))) (hR : f_X3_image S N_ = some R_) : FnI l g yX3_image wA_X3_image { frames := 3, cells := 0, slots := 0, locals := 69 } [.ref (b 0)] (wC g b y S) R_.1 (wC g b y R_.2) := by
  refine fEntry (As := [.ref (b 0)]) (maxL := 1) (ret := (some .int)) (by decide) rfl [some (.ref (b 0))] (Nat.le_of_ble_eq_true rfl) (lvInB.to (lvInB.sm lvInB.nil)) ?_
  intro p e s m below meth c A C hr hlocks hname hA
  have C : Cx p s m _ c g A cX3_image 1 wA_X3_image RX3 := C
  rw [f_X3_image] at hR
  refine g_aload_n C dX3_image_0 rfl 1 rfl ?_
  refine g_get (v := .ref (b 13)) C (hiC hiA_3) 0 rfl rfl 2 (by decide) (List.mem_cons_of_mem _ wl_17) rfl rfl dX3_image_1 4 rfl ?_
  refine g_aload_n C dX3_image_4 rfl 5 rfl ?_
  refine g_get (v := .ref (b 1)) C (hiC hiA_3) 0 rfl rfl 0 (by decide) (List.mem_cons_of_mem _ wl_15) rfl rfl dX3_image_5 8 rfl ?_
  obtain ⟨v1, hv1, hR⟩ := opt_b hR
  refine g_callV C (rn_VN C (k_X1_copyFrom l g (fun i => b (13 + i)) (fun i => b (1 + i)) (y 2) (kR S.1 2) (y 0) (kR S.1 0) N_ v1 hv1) ⟨va_cnB 1 C.1.2.2.2.2 (gdA wl_139) rfl rfl rfl (nst C (List.mem_of_getElem? (i := 33) rfl)) (C.1.2.2.2.2 _ (List.mem_cons_of_mem _ wl_14)) hd_X1_copyFrom.2 ⟨Nat.le_of_ble_eq_true rfl, Nat.le_of_ble_eq_true rfl⟩, C.1.2.2.2.2 _ (List.mem_cons_of_mem _ wl_137), C.1.2.2.2.2 _ (List.mem_cons_of_mem _ wl_138)⟩ 23 rfl rfl [23, 24, 25, 26, 27, 28, 29, 30, 31, 32, 33, 1, 2, 3, 4, 5, 6, 7, 8, 9, 10, 11] wC_kk20 rfl rfl rfl (Nat.le_of_ble_eq_true rfl) ⟨Nat.zero_le _, Nat.zero_le _⟩ dX3_image_8) (wC g b y ((kP S.1 2 v1), S.2)) wC_pp20 rfl 11 rfl ?_
  refine g_aload_n C dX3_image_11 rfl 12 rfl ?_
  refine g_iconst C dX3_image_12 1 ic_1 13 rfl ?_
  refine g_put C (hiC hiA_3) tyX3 tyX3_ok nmX3 0 rfl rfl 3 (by decide) (List.mem_cons_of_mem _ wl_18) rfl rfl rfl rfl (Nat.le_of_ble_eq_true rfl) dX3_image_13 (wC g b y ((kS (kP S.1 2 v1) 30 (upd ((kP S.1 2 v1) 30) 0 1)), S.2)) rfl 16 rfl ?_
  refine g_aload_n C dX3_image_16 rfl 17 rfl ?_
  refine g_get (v := .ref (b 1)) C (hiC hiA_3) 0 rfl rfl 0 (by decide) (List.mem_cons_of_mem _ wl_15) rfl rfl dX3_image_17 20 rfl ?_
  refine g_getN (v := .int ((kP S.1 2 v1) 0 0)) C (hiC hiA_1) 1 rfl rfl 1 (by decide) (List.mem_of_getElem? (i := 11) rfl) rfl rfl dX3_image_20 23 rfl ?_
  obtain rfl := Option.some.inj hR
  exact g_iret C hr hlocks hA (by first | (dsimp only; done) | rfl) (by first | (dsimp only; done) | rfl) dX3_image_23
theorem hd_X3_restore : yX3_restore.cls = RX3 ∧ yX3_restore.cls ≠ "java/lang/invoke/MethodHandle" ∧ yX3_restore.cls ≠ "java/lang/invoke/VarHandle" ∧ (parseMethodDescriptor yX3_restore.desc).map (fun d => d.parameters.length) = some 0 := by decide +kernel
def f_X3_restore (S : (Nat → Nat → Int32) × (Nat → Nat → Int64)) (N_ : Nat) : Option (Int32 × ((Nat → Nat → Int32) × (Nat → Nat → Int64))) :=
  if (S.1 30 0) = 0 then
    some ((f_X3_refuse S (-3)).1, (f_X3_refuse S (-3)).2)
  else
    (f_X1_copyFrom (kR S.1 0) (kR S.1 2) N_).bind fun v1 =>
    some (((kP S.1 0 v1) 0 0), ((kP S.1 0 v1), S.2))
set_option maxRecDepth 100000 in
set_option maxHeartbeats 4000000 in
theorem k_X3_restore (l : Launch) (g : gE) (b : Nat → Nat) (y : Nat → Nat → Nat) (S : (Nat → Nat → Int32) × (Nat → Nat → Int64)) (N_ : Nat) (R_ : Int32 × ((Nat → Nat → Int32) × (Nat → Nat → Int64))) (hR : f_X3_restore S N_ = some R_) : FnI l g yX3_restore wA_X3_restore { frames := 3, cells := 0, slots := 0, locals := 69 } [.ref (b 0)] (wC g b y S) R_.1 (wC g b y R_.2) := by
  refine fEntry (As := [.ref (b 0)]) (maxL := 1) (ret := (some .int)) (by decide) rfl [some (.ref (b 0))] (Nat.le_of_ble_eq_true rfl) (lvInB.to (lvInB.sm lvInB.nil)) ?_
  intro p e s m below meth c A C hr hlocks hname hA
  have C : Cx p s m _ c g A cX3_restore 1 wA_X3_restore RX3 := C
  rw [f_X3_restore] at hR
  refine g_aload_n C dX3_restore_0 rfl 1 rfl ?_
  refine g_get (v := .int (S.1 30 0)) C (hiC hiA_3) 0 rfl rfl 3 (by decide) (List.mem_cons_of_mem _ wl_18) rfl rfl dX3_restore_1 4 rfl ?_
  refine g_if_ne C dX3_restore_4 hR 14 7 (by decide) rfl (fun c_4 hR => ?_) (fun c_4 hR => ?_)
  · refine g_aload_n C dX3_restore_14 rfl 15 rfl ?_
    refine g_get (v := .ref (b 1)) C (hiC hiA_3) 0 rfl rfl 0 (by decide) (List.mem_cons_of_mem _ wl_15) rfl rfl dX3_restore_15 18 rfl ?_
    refine g_aload_n C dX3_restore_18 rfl 19 rfl ?_
    refine g_get (v := .ref (b 13)) C (hiC hiA_3) 0 rfl rfl 2 (by decide) (List.mem_cons_of_mem _ wl_17) rfl rfl dX3_restore_19 22 rfl ?_
    obtain ⟨v1, hv1, hR⟩ := opt_b hR
    refine g_callV C (rn_VN C (k_X1_copyFrom l g (fun i => b (1 + i)) (fun i => b (13 + i)) (y 0) (kR S.1 0) (y 2) (kR S.1 2) N_ v1 hv1) ⟨va_cnB 1 C.1.2.2.2.2 (gdA wl_139) rfl rfl rfl (nst C (List.mem_of_getElem? (i := 33) rfl)) (C.1.2.2.2.2 _ (List.mem_cons_of_mem _ wl_14)) hd_X1_copyFrom.2 ⟨Nat.le_of_ble_eq_true rfl, Nat.le_of_ble_eq_true rfl⟩, C.1.2.2.2.2 _ (List.mem_cons_of_mem _ wl_137), C.1.2.2.2.2 _ (List.mem_cons_of_mem _ wl_138)⟩ 1 rfl rfl [1, 2, 3, 4, 5, 6, 7, 8, 9, 10, 11, 23, 24, 25, 26, 27, 28, 29, 30, 31, 32, 33] wC_kk02 rfl rfl rfl (Nat.le_of_ble_eq_true rfl) ⟨Nat.zero_le _, Nat.zero_le _⟩ dX3_restore_22) (wC g b y ((kP S.1 0 v1), S.2)) wC_pp02 rfl 25 rfl ?_
    refine g_aload_n C dX3_restore_25 rfl 26 rfl ?_
    refine g_get (v := .ref (b 1)) C (hiC hiA_3) 0 rfl rfl 0 (by decide) (List.mem_cons_of_mem _ wl_15) rfl rfl dX3_restore_26 29 rfl ?_
    refine g_getN (v := .int ((kP S.1 0 v1) 0 0)) C (hiC hiA_1) 1 rfl rfl 1 (by decide) (List.mem_of_getElem? (i := 11) rfl) rfl rfl dX3_restore_29 32 rfl ?_
    obtain rfl := Option.some.inj hR
    exact g_iret C hr hlocks hA (by first | (dsimp only; done) | rfl) (by first | (dsimp only; done) | rfl) dX3_restore_32
  · refine g_aload_n C dX3_restore_7 rfl 8 rfl ?_
    refine g_bipush C dX3_restore_8 (-3) bp_m3 10 rfl ?_
    refine g_callI C (rn_V C (k_X3_refuse l g b y S (-3)) (cwV 1 C.1.2.2.2.2 (gdV wl_99 wl_96 wl_97 wl_98 wl_2) rfl rfl rfl hd_X3_refuse ⟨Nat.le_of_ble_eq_true rfl, Nat.le_of_ble_eq_true rfl⟩) 0 rfl rfl _ rg_C rg_n rfl rfl (Nat.le_of_ble_eq_true rfl) ⟨Nat.zero_le _, Nat.zero_le _⟩ dX3_restore_10) (wC g b y ((f_X3_refuse S (-3)).2)) (rg_put (wC_len.trans wC_len.symm)) (rg_len (wC_len.trans wC_len.symm)) 13 rfl ?_
    obtain rfl := Option.some.inj hR
    exact g_iret C hr hlocks hA (by first | (dsimp only; done) | rfl) (by first | (dsimp only; done) | rfl) dX3_restore_13
