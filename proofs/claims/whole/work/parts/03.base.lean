/-! The judgement of a walk: Gm .. ws lv st pc: whatever heap holds the cells ws, whatever locals hold lv: W at pc. -/
abbrev gE : Type := va_G × (Nat → ClassId) × (Nat → Nat)
def gT (g : gE) : List (ClassId × FieldType) := [(g.2.1 0, .int), (g.2.1 1, .long), (g.2.1 2, .object RX0)]
def sNm (k : Nat) : String := match k with
  | 0 => "OFF_TENTHS"
  | 1 => "CUP_WORTH"
  | 2 => "CUP_HARM"
  | _ => "HARM_TIMES"
def sTb (k : Nat) : List Int32 := match k with
  | 0 => [0, 1, 3, 6, 9, 0, 0, 2, 7, 10, 0, 2, 5, 9, 10, 1, 1, 2, 4, 8]
  | 1 => [9, 9, 6, 3, 0, 7, 7, 7, 2, -3, 5, 5, 5, 5, 0, 2, 2, 2, 2, -4, 0, 0, 0, 0, 0]
  | 2 => [0, 0, 1, 2, 3, 0, 0, 0, 1, 2, 0, 0, 0, 0, 1, 0, 0, 0, 0, 0, 0, 0, 0, 0, 0]
  | _ => [1, 3, 9]
def sFn (k : Nat) (j : Nat) : Int32 := (sTb k).getD j 0
def nestM : List (String × Nat × MethodName × String) := [(RX3, 11, ⟨RX1, "<init>", "()V"⟩, RX3), (RX3, 110, ⟨RX1, "addJug", "(IIII)Z"⟩, RX3), (RX3, 114, ⟨RX1, "standInCold", "(I)V"⟩, RX3), (RX3, 118, ⟨RX1, "standInWarm", "(II)Z"⟩, RX3), (RX3, 121, ⟨RX1, "setCost", "(II)Z"⟩, RX3), (RX3, 127, ⟨RX1, "takeInHand", "(I)Z"⟩, RX3), (RX3, 130, ⟨RX1, "addSeen", "(II)Z"⟩, RX3), (RX3, 133, ⟨RX1, "takeCups", "(I)Z"⟩, RX3), (RX3, 140, ⟨RX1, "jugAt", "(I)LStillGood$Jug;"⟩, RX3), (RX3, 156, ⟨RX0, "trueStage", "()I"⟩, RX3), (RX3, 160, ⟨RX0, "coldPoints", "()I"⟩, RX3), (RX3, 163, ⟨RX0, "warmPoints", "()I"⟩, RX3), (RX3, 166, ⟨RX1, "allPoints", "()I"⟩, RX3), (RX3, 169, ⟨RX0, "gain", "(I)V"⟩, RX3), (RX3, 182, ⟨RX1, "inHand", "()LStillGood$Jug;"⟩, RX3), (RX3, 186, ⟨RX1, "costOf", "(I)I"⟩, RX3), (RX3, 192, ⟨RX0, "offTenths", "(II)I"⟩, RX3), (RX3, 199, ⟨RX2, "sumOf", "(II)J"⟩, RX3), (RX3, 203, ⟨RX2, "sumOfAll", "()J"⟩, RX3), (RX3, 211, ⟨RX1, "netSum", "(IILStillGood$Thoughts;)J"⟩, RX3), (RX3, 215, ⟨RX1, "bestUse", "(ILStillGood$Thoughts;)I"⟩, RX3), (RX3, 223, ⟨RX0, "fillFrom", "(LStillGood$Jug;)V"⟩, RX3), (RX3, 227, ⟨RX2, "weigh", "(LStillGood$Jug;)V"⟩, RX3), (RX3, 236, ⟨RX2, "narrow", "(LStillGood$Thoughts;LStillGood$Jug;II)V"⟩, RX3), (RX3, 263, ⟨RX1, "bestSum", "(ILStillGood$Thoughts;)J"⟩, RX3), (RX3, 266, ⟨RX1, "addPerson", "(I)Z"⟩, RX3), (RX3, 287, ⟨RX2, "times", "(II)V"⟩, RX3), (RX3, 293, ⟨RX2, "worseOf", "(LStillGood$Thoughts;LStillGood$Thoughts;)V"⟩, RX3), (RX3, 320, ⟨RX1, "netOf", "(III)I"⟩, RX3), (RX3, 330, ⟨RX0, "fill", "(IIII)V"⟩, RX3), (RX3, 343, ⟨RX1, "allCups", "()I"⟩, RX3), (RX3, 45, ⟨RX0, "<init>", "()V"⟩, RX3), (RX3, 55, ⟨RX2, "<init>", "()V"⟩, RX3), (RX3, 81, ⟨RX1, "copyFrom", "(LStillGood$Kitchen;)V"⟩, RX3), (RX0, 49, ⟨RX3, "at", "([II)I"⟩, RX3), (RX0, 53, ⟨RX3, "heldTenths", "(I)I"⟩, RX3), (RX1, 114, ⟨RX2, "sumOf", "(II)J"⟩, RX3), (RX1, 17, ⟨RX0, "<init>", "()V"⟩, RX3), (RX1, 51, ⟨RX0, "fillFrom", "(LStillGood$Jug;)V"⟩, RX3), (RX1, 59, ⟨RX3, "isOneOf", "(II)Z"⟩, RX3), (RX1, 63, ⟨RX0, "fill", "(IIII)V"⟩, RX3), (RX1, 67, ⟨RX0, "coldPoints", "()I"⟩, RX3), (RX1, 71, ⟨RX0, "gain", "(I)V"⟩, RX3), (RX1, 75, ⟨RX0, "warmPoints", "()I"⟩, RX3), (RX1, 94, ⟨RX3, "at", "([II)I"⟩, RX3), (RX2, 15, ⟨RX0, "weightOf", "(I)I"⟩, RX3), (RX2, 21, ⟨RX0, "offTenths", "(II)I"⟩, RX3), (RX2, 29, ⟨RX3, "isOneOf", "(II)Z"⟩, RX3)]
def nestF : List (String × Nat × String × String × String × String) := [(RX3, 124, RX1, "price", "I", RX3), (RX3, 144, RX0, "kind", "I", RX3), (RX3, 147, RX0, "figure", "I", RX3), (RX3, 150, RX0, "cups", "I", RX3), (RX3, 153, RX0, "points", "I", RX3), (RX3, 172, RX1, "hand", "I", RX3), (RX3, 179, RX1, "seenCount", "I", RX3), (RX3, 230, RX1, "seenTests", "[I", RX3), (RX3, 233, RX1, "seenOff", "[I", RX3), (RX3, 269, RX1, "peopleCount", "I", RX3), (RX3, 272, RX1, "people", "[I", RX3), (RX3, 314, RX1, "jugCount", "I", RX3), (RX0, 45, RX3, "OFF_TENTHS", "[I", RX3), (RX1, 101, RX3, "CUP_WORTH", "[I", RX3), (RX1, 104, RX3, "CUP_HARM", "[I", RX3), (RX1, 107, RX3, "HARM_TIMES", "[I", RX3), (RX1, 82, RX0, "cups", "I", RX3), (RX1, 98, RX0, "points", "I", RX3)]
def gN (U : State) : Prop := (∀ q ∈ nestM, va_Nw (.methodLinkNest q.1 q.2.1 q.2.2.1 q.2.2.2) U) ∧ ∀ q ∈ nestF, va_Nw (.fieldLinkNest q.1 q.2.1 q.2.2.1 q.2.2.2.1 q.2.2.2.2.1 q.2.2.2.2.2) U
theorem gN.warm {s U : State} (hW : s.WarmedH U.vm) (h : gN s) : gN U := ⟨fun q hq => va_Nw.warmM hW (h.1 q hq), fun q hq => va_Nw.warmF hW (h.2 q hq)⟩
theorem gN.same {s U : State} (hv : s.vm = U.vm) (h : gN s) : gN U := ⟨fun q hq => va_Nw.same rfl hv (h.1 q hq), fun q hq => va_Nw.same rfl hv (h.2 q hq)⟩
def gX (g : gE) (A : Nat → Prop) (U : State) (H : Heap) : Prop := (∀ k, k < 4 → va_Z RX3 (sNm k) "[I" (.ref (g.2.2 k)) A U H ∧ va_T .int (g.2.2 k) (sTb k).length (fun j => .int (sFn k j)) A U H) ∧ gN U
theorem gX.warm {g : gE} {A B : Nat → Prop} {U U1 : State} {H H1 : Heap} (h : gX g A U H) (hAB : ∀ q, B q → A q) (hk : ∀ a, a < H.size → ¬ A a → H1[a]? = H[a]?) (hW : U.WarmedH U1.vm) : gX g B U1 H1 :=
  ⟨fun k hk4 => ⟨(((h.1 k hk4).1.kept hk).narrow hAB).moved hW.alike, (((h.1 k hk4).2.kept hk).narrow hAB).moved hW.alike⟩, h.2.warm hW⟩
theorem gX.same {g : gE} {A : Nat → Prop} {U U1 : State} {H : Heap} (h : gX g A U H) (hv : U.vm = U1.vm) : gX g A U1 H :=
  ⟨fun k hk4 => ⟨(h.1 k hk4).1.moved (by rw [hv]; exact Vm.Alike.refl _), (h.1 k hk4).2.moved (by rw [hv]; exact Vm.Alike.refl _)⟩, h.2.same hv⟩
def lvL : Nat → List (Option Value) → List (Nat × Value)
  | _, [] => []
  | i, none :: t => lvL (i + 1) t
  | i, some v :: t => (i, v) :: lvL (i + 1) t
theorem lvL_mem : ∀ (lv : List (Option Value)) (k j : Nat) (v : Value), (j, v) ∈ lvL k lv ↔ ∃ i, j = k + i ∧ lv[i]? = some (some v)
  | [], k, j, v => by simp [lvL]
  | none :: t, k, j, v => by
    rw [lvL, lvL_mem t (k + 1) j v]
    constructor
    · rintro ⟨i, h1, h2⟩
      exact ⟨i + 1, by omega, by simpa using h2⟩
    · rintro ⟨i, h1, h2⟩
      cases i with
      | zero => simp at h2
      | succ i => exact ⟨i, by omega, by simpa using h2⟩
  | some w :: t, k, j, v => by
    rw [lvL, List.mem_cons, lvL_mem t (k + 1) j v]
    constructor
    · rintro (h | ⟨i, h1, h2⟩)
      · cases h
        exact ⟨0, by omega, by simp⟩
      · exact ⟨i + 1, by omega, by simpa using h2⟩
    · rintro ⟨i, h1, h2⟩
      cases i with
      | zero =>
        left
        simp at h2
        rw [h1, h2]
        rfl
      | succ i => exact Or.inr ⟨i, by omega, by simpa using h2⟩
def lvH (ls : Array Slot) (nL : Nat) (lv : List (Option Value)) : Prop := ls.size = nL ∧ lv_wf ls ∧ ∀ (i : Nat) (v : Value), lv[i]? = some (some v) → ls[i]? = some (.val v)
theorem lvH.has {ls : Array Slot} {nL : Nat} {lv : List (Option Value)} (h : lvH ls nL lv) : lv_has ls nL (lvL 0 lv) := ⟨h.1, h.2.1, fun q hq => by
  obtain ⟨i, h1, h2⟩ := (lvL_mem lv 0 q.1 q.2).mp hq
  rw [show q.1 = i by omega]
  exact h.2.2 i q.2 h2⟩
theorem lvH.of {ls : Array Slot} {nL : Nat} {la : List (Nat × Value)} {lv : List (Option Value)} (h : lv_has ls nL la) (hm : ∀ (i : Nat) (v : Value), lv[i]? = some (some v) → (i, v) ∈ la) : lvH ls nL lv := ⟨h.1, h.2.1, fun i v hi => h.2.2 (i, v) (hm i v hi)⟩
def lvP (lv : List (Option Value)) (i : Nat) : Bool := match i with
  | 0 => true
  | j + 1 => match lv[j]? with
    | some (some v) => !(v.category == 2)
    | _ => true
theorem lvP_ok {lv : List (Option Value)} {i : Nat} (h : lvP lv i = true) {j : Nat} {v : Value} (hj : lv[j]? = some (some v)) (hi : j + 1 = i) : v.category ≠ 2 := by
  subst hi
  simp only [lvP, hj] at h
  intro hc
  simp [hc] at h
theorem lvH.st1 {ls : Array Slot} {nL i : Nat} {x : Value} {lv : List (Option Value)} (hp : lvP lv i = true) (h : lv_has ls nL ((i, x) :: (lvL 0 lv).filter (fun q => !(q.1 == i) && !(q.1 + 1 == i && q.2.category == 2)))) : lvH ls nL (lv.set i (some x)) := by
  refine lvH.of h fun j v hj => ?_
  rw [List.getElem?_set] at hj
  split at hj
  · rename_i he
    subst he
    split at hj
    · cases hj
      exact List.mem_cons_self
    · cases hj
  · rename_i he
    refine List.mem_cons_of_mem _ (List.mem_filter.mpr ⟨(lvL_mem lv 0 j v).mpr ⟨j, by omega, hj⟩, ?_⟩)
    have hn : ¬ (j = i) := fun z => he z.symm
    by_cases h2 : j + 1 = i
    · have := lvP_ok hp hj h2
      simp [hn, this]
    · simp [hn, h2]
theorem lvH.st2 {ls : Array Slot} {nL i : Nat} {x : Value} {lv : List (Option Value)} (hp : lvP lv i = true) (h : lv_has ls nL ((i, x) :: (lvL 0 lv).filter (fun q => !(q.1 == i) && (!(q.1 == i + 1) && !(q.1 + 1 == i && q.2.category == 2))))) : lvH ls nL ((lv.set i (some x)).set (i + 1) none) := by
  refine lvH.of h fun j v hj => ?_
  rw [List.getElem?_set] at hj
  split at hj
  · split at hj <;> cases hj
  rename_i hs
  rw [List.getElem?_set] at hj
  split at hj
  · rename_i he
    subst he
    split at hj
    · cases hj
      exact List.mem_cons_self
    · cases hj
  · rename_i he
    refine List.mem_cons_of_mem _ (List.mem_filter.mpr ⟨(lvL_mem lv 0 j v).mpr ⟨j, by omega, hj⟩, ?_⟩)
    have hn : ¬ (j = i) := fun z => he z.symm
    have hn2 : ¬ (j = i + 1) := fun z => hs z.symm
    by_cases h2 : j + 1 = i
    · have := lvP_ok hp hj h2
      simp [hn, hn2, this]
    · simp [hn, hn2, h2]
def lvLe (lw lv : List (Option Value)) : Prop := ∀ (i : Nat) (v : Value), lw[i]? = some (some v) → lv[i]? = some (some v)
theorem lvLe.nil {lv : List (Option Value)} : lvLe [] lv := fun i v h => by simp at h
theorem lvLe.nn {a : Option Value} {lw lv : List (Option Value)} (h : lvLe lw lv) : lvLe (none :: lw) (a :: lv) := fun i v hi => by
  cases i with
  | zero => simp at hi
  | succ i => simpa using h i v (by simpa using hi)
theorem lvLe.sm {a : Option Value} {lw lv : List (Option Value)} (h : lvLe lw lv) : lvLe (a :: lw) (a :: lv) := fun i v hi => by
  cases i with
  | zero => simpa using hi
  | succ i => simpa using h i v (by simpa using hi)
/-- the constants of a walk -/
def Cx (p : Program) (s : State) (m : MethodId) (args : Array Value) (c : Code) (g : gE) (A : Nat → Prop) (cc : ByteArray) (nL : Nat) (Ts : List Cond) (own : String) : Prop :=
  CallFix p m c cc nL s args Ts own ∧ (∀ q, s.heap.size ≤ q → A q) ∧ va_K g.1 vwCl (gT g) s ∧ gX g A s s.heap
def Gm (p : Program) (l : Launch) (e : Env) (R : Room) (s : State) (m : MethodId) (args : Array Value) (below : List Frame) (meth : Method) (c : Code) (Q : State → Prop) (g : gE) (A : Nat → Prop) (nL cells slots : Nat) (ws : va_W) (lv : List (Option Value)) (st : List Value) (pc : Nat) : Prop :=
  ∀ (H : Heap) (locs : List Loc) (ls : Array Slot), va_P g.1 vwCl ws H → va_D A ws → va_S A s.heap H locs → lvH ls nL lv → W p l e R s m args below meth c H locs cells slots Q (F0 m pc ls st)
/-- the cells at the places ks become w1 -/
def wPut (ws : va_W) : List Nat → va_W → va_W
  | k :: ks, q :: w1 => wPut (ws.set k q) ks w1
  | _, _ => ws
theorem wPut_len : ∀ (ks : List Nat) (w1 ws : va_W), (wPut ws ks w1).length = ws.length
  | [], _, _ => by simp [wPut]
  | _ :: _, [], _ => by simp [wPut]
  | k :: ks, q :: w1, ws => by rw [wPut, wPut_len ks w1]; simp
theorem wPut_get : ∀ (ks : List Nat) (w1 ws : va_W) (i : Nat) (q : Nat × va_E), ks.Nodup → ks.length = w1.length → (wPut ws ks w1)[i]? = some q → (∃ j : Nat, ks[j]? = some i ∧ w1[j]? = some q) ∨ (i ∉ ks ∧ ws[i]? = some q)
  | [], w1, ws, i, q, _, hl, h => Or.inr ⟨by simp, by simpa [wPut] using h⟩
  | k :: ks, [], ws, i, q, _, hl, h => by simp at hl
  | k :: ks, e :: w1, ws, i, q, hn, hl, h => by
    rw [wPut] at h
    have hn2 := List.nodup_cons.mp hn
    rcases wPut_get ks w1 _ i q hn2.2 (by simpa using hl) h with ⟨j, h1, h2⟩ | ⟨h1, h2⟩
    · exact Or.inl ⟨j + 1, by simpa using h1, by simpa using h2⟩
    · rw [List.getElem?_set] at h2
      split at h2
      · rename_i he
        subst he
        split at h2
        · cases h2
          exact Or.inl ⟨0, by simp, by simp⟩
        · cases h2
      · rename_i he
        exact Or.inr ⟨by simp only [List.mem_cons, not_or]; exact ⟨fun z => he z.symm, h1⟩, h2⟩
theorem va_nd_nodup : ∀ (ks : List Nat), va_nd ks = true → ks.Nodup
  | [], _ => List.nodup_nil
  | a :: l, h => by
    simp only [va_nd, Bool.and_eq_true, decide_eq_true_eq] at h
    exact List.nodup_cons.mpr ⟨h.1, va_nd_nodup l h.2⟩
theorem pickAt {ws wc : va_W} {ks : List Nat} (hC : ks.map (fun i => ws[i]?) = wc.map some) {k : Nat} {q : Nat × va_E} (hq : wc[k]? = some q) : ∃ i, ks[k]? = some i ∧ ws[i]? = some q := by
  have h1 : (ks.map (fun i => ws[i]?))[k]? = some (some q) := by rw [hC, List.getElem?_map, hq]; rfl
  rw [List.getElem?_map] at h1
  cases hi : ks[k]? with
  | none => rw [hi] at h1; cases h1
  | some i => rw [hi] at h1; exact ⟨i, rfl, Option.some.inj h1⟩
theorem wPut_join {A0 : Nat → Prop} {D : va_G} {cl : List vw_C} {ws wc w1 : va_W} {H H1 : Heap} (hP : va_P D cl ws H) (hD : va_D A0 ws) (ks : List Nat) (hC : ks.map (fun i => ws[i]?) = wc.map some) (hn : va_nd ks = true) (hl : ks.length = w1.length)
    (hk : ∀ q : Nat, q < H.size → ¬ va_A wc H.size q → H1[q]? = H[q]?) (hF : ∀ q, va_A wc H.size q → A0 q) (hP1 : va_P D cl w1 H1) (hD1 : va_D (va_A wc H.size) w1) : va_P D cl (wPut ws ks w1) H1 ∧ va_D A0 (wPut ws ks w1) := by
  have hnd := va_nd_nodup ks hn
  have apart : ∀ (i : Nat) (q : Nat × va_E), i ∉ ks → ws[i]? = some q → q.1 < H.size ∧ ¬ va_A wc H.size q.1 := by
    intro i q hi hq
    have hlt := (hP i q hq).lt
    refine ⟨hlt, fun h => ?_⟩
    rcases h with ⟨k2, e, h⟩ | h
    · obtain ⟨j, h3, h4⟩ := pickAt hC h
      have hij := hD.1 i j q (q.1, e) hq h4 rfl
      subst hij
      exact hi (List.mem_of_getElem? h3)
    · omega
  refine ⟨fun i q hq => ?_, fun i j x y hx hy hxy => ?_, fun i q hq => ?_⟩
  · rcases wPut_get ks w1 ws i q hnd hl hq with ⟨j, h1, h2⟩ | ⟨h1, h2⟩
    · exact hP1 j q h2
    · obtain ⟨g1, g2⟩ := apart i q h1 h2
      exact (hP i q h2).kept (hk q.1 g1 g2)
  · rcases wPut_get ks w1 ws i x hnd hl hx with ⟨a, h1, h2⟩ | ⟨h1, h2⟩ <;> rcases wPut_get ks w1 ws j y hnd hl hy with ⟨b, h3, h4⟩ | ⟨h3, h4⟩
    · have hab := hD1.1 a b x y h2 h4 hxy
      subst hab
      rw [h1] at h3
      exact Option.some.inj h3
    · exact absurd (hxy ▸ hD1.2 a x h2) (apart j y h3 h4).2
    · exact absurd (hxy.symm ▸ hD1.2 b y h4) (apart i x h1 h2).2
    · exact hD.1 i j x y h2 h4 hxy
  · rcases wPut_get ks w1 ws i q hnd hl hq with ⟨j, h1, h2⟩ | ⟨h1, h2⟩
    · exact hF q.1 (hD1.2 j q h2)
    · exact hD.2 i q h2
/-- contracts: from the cells wc, with the arguments As, the method answers r and leaves the cells w1 -/
def fPc (g : gE) (As : List Value) (wc : va_W) (sz : Nat) : Array Value → State → Prop := va_Pc As (fun U => U.heap.size = sz ∧ va_P g.1 vwCl wc U.heap ∧ va_K g.1 vwCl (gT g) U ∧ va_D (fun _ => True) wc ∧ gX g (va_A wc sz) U U.heap)
def fB (g : gE) (wc w1 : va_W) (sz : Nat) (t : State) : Prop := va_P g.1 vwCl w1 t.heap ∧ va_K g.1 vwCl (gT g) t ∧ va_D (va_A wc sz) w1
def qI (g : gE) (wc : va_W) (r : Int32) (w1 : va_W) (sz : Nat) : Array Value → State → Outcome → State → Prop := va_Qi (fun r' (_ : Unit) => r' = r) (fun _ t => fB g wc w1 sz t) (va_A wc sz)
def qL (g : gE) (wc : va_W) (r : Int64) (w1 : va_W) (sz : Nat) : Array Value → State → Outcome → State → Prop := va_Ql (fun r' (_ : Unit) => r' = r) (fun _ t => fB g wc w1 sz t) (va_A wc sz)
def qV (g : gE) (wc : va_W) (w1 : va_W) (sz : Nat) : Array Value → State → Outcome → State → Prop := va_Qv (fun (_ : Unit) => True) (fun _ t => fB g wc w1 sz t) (va_A wc sz)
def qQ (g : gE) (wc : va_W) (r : Option Nat) (w1 : va_W) (sz : Nat) : Array Value → State → Outcome → State → Prop := va_Qq (fun r' (_ : Unit) => r' = r) (fun _ t => fB g wc w1 sz t) (va_A wc sz)
def FnI (l : Launch) (g : gE) (y : MethodName) (wsY : List Cond) (rm : Room) (As : List Value) (wc : va_W) (r : Int32) (w1 : va_W) : Prop := ∀ sz, Met l y wsY rm (fPc g As wc sz) (qI g wc r w1 sz) 0 0 (va_A wc sz)
def FnL (l : Launch) (g : gE) (y : MethodName) (wsY : List Cond) (rm : Room) (As : List Value) (wc : va_W) (r : Int64) (w1 : va_W) : Prop := ∀ sz, Met l y wsY rm (fPc g As wc sz) (qL g wc r w1 sz) 0 0 (va_A wc sz)
def FnV (l : Launch) (g : gE) (y : MethodName) (wsY : List Cond) (rm : Room) (As : List Value) (wc : va_W) (w1 : va_W) : Prop := ∀ sz, Met l y wsY rm (fPc g As wc sz) (qV g wc w1 sz) 0 0 (va_A wc sz)
def FnQ (l : Launch) (g : gE) (y : MethodName) (wsY : List Cond) (rm : Room) (As : List Value) (wc : va_W) (r : Option Nat) (w1 : va_W) : Prop := ∀ sz, Met l y wsY rm (fPc g As wc sz) (qQ g wc r w1 sz) 0 0 (va_A wc sz)
theorem fPc_blind {g : gE} {As : List Value} {wc : va_W} {sz : Nat} : FrameBlind (fPc g As wc sz) := fun a U gf mk q => by
  obtain ⟨q0, q1, q2, q3, q4, q5⟩ := q
  exact ⟨q0, q1, q2, va_K.moved (u := U) (U := U.calling gf mk a) (Vm.Alike.refl U.vm) q3, q4, gX.same (U1 := U.calling gf mk a) q5 rfl⟩
def b2i (b : Bool) : Int32 := if b then 1 else 0
theorem b2i_nar (b : Bool) : narrow .boolean (.int (b2i b)) = .int (b2i b) := by cases b <;> rfl
theorem b2i_fit (b : Bool) : fits .boolean (.int (b2i b)) = true := by cases b <;> rfl
theorem opt_b {α β : Type} {o : Option α} {f : α → Option β} {r : β} (h : o.bind f = some r) : ∃ v, o = some v ∧ f v = some r := Option.bind_eq_some_iff.mp h
theorem opt_n {α : Type} {c : Prop} [Decidable c] {a : Option α} {r : α} (h : (if c then none else a) = some r) : (¬ c) ∧ a = some r := by
  split at h
  · cases h
  · exact ⟨by assumption, h⟩
theorem hC_n {ws : va_W} : ([] : List Nat).map (fun i => ws[i]?) = ([] : va_W).map some := rfl
theorem hC_c {ws wc : va_W} {k : Nat} {q : Nat × va_E} {ks : List Nat} (h : ws[k]? = some q) (h2 : ks.map (fun i => ws[i]?) = wc.map some) : (k :: ks).map (fun i => ws[i]?) = (q :: wc).map some := by
  rw [List.map_cons, List.map_cons, h, h2]
section
variable {p : Program} {l : Launch} {e : Env} {R : Room} {s : State} {m : MethodId} {args : Array Value} {below : List Frame} {meth : Method} {c : Code} {Q : State → Prop} {g : gE} {A : Nat → Prop} {cc : ByteArray} {nL : Nat} {Ts : List Cond} {own : String} {cells slots : Nat} {ws : va_W} {lv : List (Option Value)} {st : List Value} {pc : Nat}
theorem g_iadd (C : Cx p s m args c g A cc nL Ts own) {x y : Int32} (hd : decode cc pc = .ok (.iadd, 1))  (n : Nat) (hn : pc + 1 = n) (kk : Gm p l e R s m args below meth c Q g A nL cells slots ws lv (.int (x + y) :: st) n) : Gm p l e R s m args below meth c Q g A nL cells slots ws lv (.int y :: .int x :: st) pc := by
  subst hn
  exact fun H locs ls hP hD hS hl => lv_iadd C.1.1 C.1.2.1 hd (kk H locs ls hP hD hS hl)
theorem g_isub (C : Cx p s m args c g A cc nL Ts own) {x y : Int32} (hd : decode cc pc = .ok (.isub, 1))  (n : Nat) (hn : pc + 1 = n) (kk : Gm p l e R s m args below meth c Q g A nL cells slots ws lv (.int (x - y) :: st) n) : Gm p l e R s m args below meth c Q g A nL cells slots ws lv (.int y :: .int x :: st) pc := by
  subst hn
  exact fun H locs ls hP hD hS hl => lv_isub C.1.1 C.1.2.1 hd (kk H locs ls hP hD hS hl)
theorem g_imul (C : Cx p s m args c g A cc nL Ts own) {x y : Int32} (hd : decode cc pc = .ok (.imul, 1))  (n : Nat) (hn : pc + 1 = n) (kk : Gm p l e R s m args below meth c Q g A nL cells slots ws lv (.int (x * y) :: st) n) : Gm p l e R s m args below meth c Q g A nL cells slots ws lv (.int y :: .int x :: st) pc := by
  subst hn
  exact fun H locs ls hP hD hS hl => lv_imul C.1.1 C.1.2.1 hd (kk H locs ls hP hD hS hl)
theorem g_iand (C : Cx p s m args c g A cc nL Ts own) {x y : Int32} (hd : decode cc pc = .ok (.iand, 1))  (n : Nat) (hn : pc + 1 = n) (kk : Gm p l e R s m args below meth c Q g A nL cells slots ws lv (.int (x &&& y) :: st) n) : Gm p l e R s m args below meth c Q g A nL cells slots ws lv (.int y :: .int x :: st) pc := by
  subst hn
  exact fun H locs ls hP hD hS hl => lv_iand C.1.1 C.1.2.1 hd (kk H locs ls hP hD hS hl)
theorem g_ior (C : Cx p s m args c g A cc nL Ts own) {x y : Int32} (hd : decode cc pc = .ok (.ior, 1))  (n : Nat) (hn : pc + 1 = n) (kk : Gm p l e R s m args below meth c Q g A nL cells slots ws lv (.int (x ||| y) :: st) n) : Gm p l e R s m args below meth c Q g A nL cells slots ws lv (.int y :: .int x :: st) pc := by
  subst hn
  exact fun H locs ls hP hD hS hl => lv_ior C.1.1 C.1.2.1 hd (kk H locs ls hP hD hS hl)
theorem g_ixor (C : Cx p s m args c g A cc nL Ts own) {x y : Int32} (hd : decode cc pc = .ok (.ixor, 1))  (n : Nat) (hn : pc + 1 = n) (kk : Gm p l e R s m args below meth c Q g A nL cells slots ws lv (.int (x ^^^ y) :: st) n) : Gm p l e R s m args below meth c Q g A nL cells slots ws lv (.int y :: .int x :: st) pc := by
  subst hn
  exact fun H locs ls hP hD hS hl => lv_ixor C.1.1 C.1.2.1 hd (kk H locs ls hP hD hS hl)
theorem g_ishl (C : Cx p s m args c g A cc nL Ts own) {x y : Int32} (hd : decode cc pc = .ok (.ishl, 1))  (n : Nat) (hn : pc + 1 = n) (kk : Gm p l e R s m args below meth c Q g A nL cells slots ws lv (.int (x <<< (y &&& 31)) :: st) n) : Gm p l e R s m args below meth c Q g A nL cells slots ws lv (.int y :: .int x :: st) pc := by
  subst hn
  exact fun H locs ls hP hD hS hl => lv_ishl C.1.1 C.1.2.1 hd (kk H locs ls hP hD hS hl)
theorem g_ishr (C : Cx p s m args c g A cc nL Ts own) {x y : Int32} (hd : decode cc pc = .ok (.ishr, 1))  (n : Nat) (hn : pc + 1 = n) (kk : Gm p l e R s m args below meth c Q g A nL cells slots ws lv (.int (x >>> (y &&& 31)) :: st) n) : Gm p l e R s m args below meth c Q g A nL cells slots ws lv (.int y :: .int x :: st) pc := by
  subst hn
  exact fun H locs ls hP hD hS hl => lv_ishr C.1.1 C.1.2.1 hd (kk H locs ls hP hD hS hl)
theorem g_idiv (C : Cx p s m args c g A cc nL Ts own) {x y : Int32} (hd : decode cc pc = .ok (.idiv, 1)) (hne : ¬ y = 0) (n : Nat) (hn : pc + 1 = n) (kk : Gm p l e R s m args below meth c Q g A nL cells slots ws lv (.int (x / y) :: st) n) : Gm p l e R s m args below meth c Q g A nL cells slots ws lv (.int y :: .int x :: st) pc := by
  subst hn
  exact fun H locs ls hP hD hS hl => lv_idiv C.1.1 C.1.2.1 hd hne (kk H locs ls hP hD hS hl)
theorem g_irem (C : Cx p s m args c g A cc nL Ts own) {x y : Int32} (hd : decode cc pc = .ok (.irem, 1)) (hne : ¬ y = 0) (n : Nat) (hn : pc + 1 = n) (kk : Gm p l e R s m args below meth c Q g A nL cells slots ws lv (.int (x - x / y * y) :: st) n) : Gm p l e R s m args below meth c Q g A nL cells slots ws lv (.int y :: .int x :: st) pc := by
  subst hn
  exact fun H locs ls hP hD hS hl => lv_irem C.1.1 C.1.2.1 hd hne (kk H locs ls hP hD hS hl)
theorem g_ladd (C : Cx p s m args c g A cc nL Ts own) {x y : Int64} (hd : decode cc pc = .ok (.ladd, 1))  (n : Nat) (hn : pc + 1 = n) (kk : Gm p l e R s m args below meth c Q g A nL cells slots ws lv (.long (x + y) :: st) n) : Gm p l e R s m args below meth c Q g A nL cells slots ws lv (.long y :: .long x :: st) pc := by
  subst hn
  exact fun H locs ls hP hD hS hl => lv_ladd C.1.1 C.1.2.1 hd (kk H locs ls hP hD hS hl)
theorem g_lsub (C : Cx p s m args c g A cc nL Ts own) {x y : Int64} (hd : decode cc pc = .ok (.lsub, 1))  (n : Nat) (hn : pc + 1 = n) (kk : Gm p l e R s m args below meth c Q g A nL cells slots ws lv (.long (x - y) :: st) n) : Gm p l e R s m args below meth c Q g A nL cells slots ws lv (.long y :: .long x :: st) pc := by
  subst hn
  exact fun H locs ls hP hD hS hl => lv_lsub C.1.1 C.1.2.1 hd (kk H locs ls hP hD hS hl)
theorem g_lmul (C : Cx p s m args c g A cc nL Ts own) {x y : Int64} (hd : decode cc pc = .ok (.lmul, 1))  (n : Nat) (hn : pc + 1 = n) (kk : Gm p l e R s m args below meth c Q g A nL cells slots ws lv (.long (x * y) :: st) n) : Gm p l e R s m args below meth c Q g A nL cells slots ws lv (.long y :: .long x :: st) pc := by
  subst hn
  exact fun H locs ls hP hD hS hl => lv_lmul C.1.1 C.1.2.1 hd (kk H locs ls hP hD hS hl)
theorem g_ldiv (C : Cx p s m args c g A cc nL Ts own) {x y : Int64} (hd : decode cc pc = .ok (.ldiv, 1)) (hne : ¬ y = 0) (n : Nat) (hn : pc + 1 = n) (kk : Gm p l e R s m args below meth c Q g A nL cells slots ws lv (.long (x / y) :: st) n) : Gm p l e R s m args below meth c Q g A nL cells slots ws lv (.long y :: .long x :: st) pc := by
  subst hn
  exact fun H locs ls hP hD hS hl => lv_ldiv C.1.1 C.1.2.1 hd hne (kk H locs ls hP hD hS hl)
theorem g_lrem (C : Cx p s m args c g A cc nL Ts own) {x y : Int64} (hd : decode cc pc = .ok (.lrem, 1)) (hne : ¬ y = 0) (n : Nat) (hn : pc + 1 = n) (kk : Gm p l e R s m args below meth c Q g A nL cells slots ws lv (.long (x - x / y * y) :: st) n) : Gm p l e R s m args below meth c Q g A nL cells slots ws lv (.long y :: .long x :: st) pc := by
  subst hn
  exact fun H locs ls hP hD hS hl => lv_lrem C.1.1 C.1.2.1 hd hne (kk H locs ls hP hD hS hl)
theorem g_ineg (C : Cx p s m args c g A cc nL Ts own) {x : Int32} (hd : decode cc pc = .ok (.ineg, 1))  (n : Nat) (hn : pc + 1 = n) (kk : Gm p l e R s m args below meth c Q g A nL cells slots ws lv (.int (-x) :: st) n) : Gm p l e R s m args below meth c Q g A nL cells slots ws lv (.int x :: st) pc := by
  subst hn
  exact fun H locs ls hP hD hS hl => lv_ineg C.1.1 C.1.2.1 hd (kk H locs ls hP hD hS hl)
theorem g_lneg (C : Cx p s m args c g A cc nL Ts own) {x : Int64} (hd : decode cc pc = .ok (.lneg, 1))  (n : Nat) (hn : pc + 1 = n) (kk : Gm p l e R s m args below meth c Q g A nL cells slots ws lv (.long (-x) :: st) n) : Gm p l e R s m args below meth c Q g A nL cells slots ws lv (.long x :: st) pc := by
  subst hn
  exact fun H locs ls hP hD hS hl => lv_lneg C.1.1 C.1.2.1 hd (kk H locs ls hP hD hS hl)
theorem g_i2l (C : Cx p s m args c g A cc nL Ts own) {x : Int32} (hd : decode cc pc = .ok (.i2l, 1))  (n : Nat) (hn : pc + 1 = n) (kk : Gm p l e R s m args below meth c Q g A nL cells slots ws lv (.long x.toInt64 :: st) n) : Gm p l e R s m args below meth c Q g A nL cells slots ws lv (.int x :: st) pc := by
  subst hn
  exact fun H locs ls hP hD hS hl => lv_i2l C.1.1 C.1.2.1 hd rfl (kk H locs ls hP hD hS hl)
theorem g_lcmp (C : Cx p s m args c g A cc nL Ts own) {x y : Int64} (hd : decode cc pc = .ok (.lcmp, 1))  (n : Nat) (hn : pc + 1 = n) (kk : Gm p l e R s m args below meth c Q g A nL cells slots ws lv (.int (lg_cmp x y) :: st) n) : Gm p l e R s m args below meth c Q g A nL cells slots ws lv (.long y :: .long x :: st) pc := by
  subst hn
  exact fun H locs ls hP hD hS hl => W.lcmp C.1.1 C.1.2.1 hd (kk H locs ls hP hD hS hl)
theorem g_iconst (C : Cx p s m args c g A cc nL Ts own) {z : Int} (hd : decode cc pc = .ok (.iconst z, 1)) (v : Int32) (hv : Int32.ofInt z = v) (n : Nat) (hn : pc + 1 = n) (kk : Gm p l e R s m args below meth c Q g A nL cells slots ws lv (.int v :: st) n) : Gm p l e R s m args below meth c Q g A nL cells slots ws lv (st) pc := by
  subst hn
  exact fun H locs ls hP hD hS hl => lv_iconst C.1.1 C.1.2.1 hd hv (kk H locs ls hP hD hS hl)
theorem g_bipush (C : Cx p s m args c g A cc nL Ts own) {z : Int} (hd : decode cc pc = .ok (.bipush z, 2)) (v : Int32) (hv : (Int8.ofInt z).toInt32 = v) (n : Nat) (hn : pc + 2 = n) (kk : Gm p l e R s m args below meth c Q g A nL cells slots ws lv (.int v :: st) n) : Gm p l e R s m args below meth c Q g A nL cells slots ws lv (st) pc := by
  subst hn
  exact fun H locs ls hP hD hS hl => lv_bipush C.1.1 C.1.2.1 hd hv (kk H locs ls hP hD hS hl)
theorem g_sipush (C : Cx p s m args c g A cc nL Ts own) {z : Int} (hd : decode cc pc = .ok (.sipush z, 3)) (v : Int32) (hv : (Int16.ofInt z).toInt32 = v) (n : Nat) (hn : pc + 3 = n) (kk : Gm p l e R s m args below meth c Q g A nL cells slots ws lv (.int v :: st) n) : Gm p l e R s m args below meth c Q g A nL cells slots ws lv (st) pc := by
  subst hn
  exact fun H locs ls hP hD hS hl => lv_sipush C.1.1 C.1.2.1 hd hv (kk H locs ls hP hD hS hl)
theorem g_lconst (C : Cx p s m args c g A cc nL Ts own) {z : Fin 2} (hd : decode cc pc = .ok (.lconst z, 1)) (v : Int64) (hv : Int64.ofNat (z : Nat) = v) (n : Nat) (hn : pc + 1 = n) (kk : Gm p l e R s m args below meth c Q g A nL cells slots ws lv (.long v :: st) n) : Gm p l e R s m args below meth c Q g A nL cells slots ws lv (st) pc := by
  subst hn
  exact fun H locs ls hP hD hS hl => lv_lconst C.1.1 C.1.2.1 hd hv (kk H locs ls hP hD hS hl)
theorem g_ldc (C : Cx p s m args c g A cc nL Ts own) {ix : Nat} {v : Int32} (hd : decode cc pc = .ok (.ldc ix, 2)) (hc : (Jvm.Cond.constant own ix v).before args s = true) (n : Nat) (hn : pc + 2 = n) (kk : Gm p l e R s m args below meth c Q g A nL cells slots ws lv (.int v :: st) n) : Gm p l e R s m args below meth c Q g A nL cells slots ws lv (st) pc := by
  subst hn
  exact fun H locs ls hP hD hS hl => lv_ldc C.1.1 C.1.2.1 C.1.2.2.2.1 hc hd (kk H locs ls hP hD hS hl)
theorem g_ldcw (C : Cx p s m args c g A cc nL Ts own) {ix : Nat} {v : Int32} (hd : decode cc pc = .ok (.ldc_w ix, 3)) (hc : (Jvm.Cond.constant own ix v).before args s = true) (n : Nat) (hn : pc + 3 = n) (kk : Gm p l e R s m args below meth c Q g A nL cells slots ws lv (.int v :: st) n) : Gm p l e R s m args below meth c Q g A nL cells slots ws lv (st) pc := by
  subst hn
  exact fun H locs ls hP hD hS hl => lv_ldcw C.1.1 C.1.2.1 C.1.2.2.2.1 hc hd (kk H locs ls hP hD hS hl)
theorem g_ldc2 (C : Cx p s m args c g A cc nL Ts own) {ix : Nat} {v : Int64} (hd : decode cc pc = .ok (.ldc2_w ix, 3)) (hc : (Jvm.Cond.constantLong own ix v).before args s = true) (n : Nat) (hn : pc + 3 = n) (kk : Gm p l e R s m args below meth c Q g A nL cells slots ws lv (.long v :: st) n) : Gm p l e R s m args below meth c Q g A nL cells slots ws lv (st) pc := by
  subst hn
  exact fun H locs ls hP hD hS hl => lv_ldc2 C.1.1 C.1.2.1 C.1.2.2.2.1 hc hd (kk H locs ls hP hD hS hl)
theorem g_null (C : Cx p s m args c g A cc nL Ts own)  (hd : decode cc pc = .ok (.aconst_null, 1))  (n : Nat) (hn : pc + 1 = n) (kk : Gm p l e R s m args below meth c Q g A nL cells slots ws lv (.null :: st) n) : Gm p l e R s m args below meth c Q g A nL cells slots ws lv (st) pc := by
  subst hn
  exact fun H locs ls hP hD hS hl => lv_null C.1.1 C.1.2.1 hd (kk H locs ls hP hD hS hl)
theorem g_dup (C : Cx p s m args c g A cc nL Ts own) {va : Value} (hd : decode cc pc = .ok (.dup, 1)) (hv : va.category = 1) (n : Nat) (hn : pc + 1 = n) (kk : Gm p l e R s m args below meth c Q g A nL cells slots ws lv (va :: va :: st) n) : Gm p l e R s m args below meth c Q g A nL cells slots ws lv (va :: st) pc := by
  subst hn
  exact fun H locs ls hP hD hS hl => lv_dup C.1.1 C.1.2.1 hd hv (kk H locs ls hP hD hS hl)
theorem g_dup2 (C : Cx p s m args c g A cc nL Ts own) {va vb : Value} (hd : decode cc pc = .ok (.dup2, 1)) (hv : va.category = 1) (hw : vb.category = 1) (n : Nat) (hn : pc + 1 = n) (kk : Gm p l e R s m args below meth c Q g A nL cells slots ws lv (va :: vb :: va :: vb :: st) n) : Gm p l e R s m args below meth c Q g A nL cells slots ws lv (va :: vb :: st) pc := by
  subst hn
  exact fun H locs ls hP hD hS hl => lv_dup2_11 C.1.1 C.1.2.1 hd hv hw (kk H locs ls hP hD hS hl)
theorem g_dup2L (C : Cx p s m args c g A cc nL Ts own) {va : Value} (hd : decode cc pc = .ok (.dup2, 1)) (hv : va.category = 2) (n : Nat) (hn : pc + 1 = n) (kk : Gm p l e R s m args below meth c Q g A nL cells slots ws lv (va :: va :: st) n) : Gm p l e R s m args below meth c Q g A nL cells slots ws lv (va :: st) pc := by
  subst hn
  exact fun H locs ls hP hD hS hl => lv_dup2_2 C.1.1 C.1.2.1 hd hv (kk H locs ls hP hD hS hl)
theorem g_pop (C : Cx p s m args c g A cc nL Ts own) {va : Value} (hd : decode cc pc = .ok (.pop, 1)) (hv : va.category = 1) (n : Nat) (hn : pc + 1 = n) (kk : Gm p l e R s m args below meth c Q g A nL cells slots ws lv (st) n) : Gm p l e R s m args below meth c Q g A nL cells slots ws lv (va :: st) pc := by
  subst hn
  exact fun H locs ls hP hD hS hl => lv_pop C.1.1 C.1.2.1 hd hv (kk H locs ls hP hD hS hl)
theorem g_iload_n (C : Cx p s m args c g A cc nL Ts own) {k : Fin 4} {x : Int32} (hd : decode cc pc = .ok (.iload_n k, 1)) (hv : lv[(k : Nat)]? = some (some (.int x))) (n : Nat) (hn : pc + 1 = n) (kk : Gm p l e R s m args below meth c Q g A nL cells slots ws lv (.int x :: st) n) : Gm p l e R s m args below meth c Q g A nL cells slots ws lv (st) pc := by
  subst hn
  exact fun H locs ls hP hD hS hl => lv_iload_n C.1.1 C.1.2.1 hd rfl (hl.2.2 _ _ hv) (kk H locs ls hP hD hS hl)
theorem g_iload (C : Cx p s m args c g A cc nL Ts own) {i : Nat} {x : Int32} (hd : decode cc pc = .ok (.iload i, 2)) (hv : lv[i]? = some (some (.int x))) (n : Nat) (hn : pc + 2 = n) (kk : Gm p l e R s m args below meth c Q g A nL cells slots ws lv (.int x :: st) n) : Gm p l e R s m args below meth c Q g A nL cells slots ws lv (st) pc := by
  subst hn
  exact fun H locs ls hP hD hS hl => lv_iload C.1.1 C.1.2.1 hd (hl.2.2 _ _ hv) (kk H locs ls hP hD hS hl)
theorem g_lload_n (C : Cx p s m args c g A cc nL Ts own) {k : Fin 4} {x : Int64} (hd : decode cc pc = .ok (.lload_n k, 1)) (hv : lv[(k : Nat)]? = some (some (.long x))) (n : Nat) (hn : pc + 1 = n) (kk : Gm p l e R s m args below meth c Q g A nL cells slots ws lv (.long x :: st) n) : Gm p l e R s m args below meth c Q g A nL cells slots ws lv (st) pc := by
  subst hn
  exact fun H locs ls hP hD hS hl => lv_lload_n C.1.1 C.1.2.1 hd rfl (hl.2.2 _ _ hv) (kk H locs ls hP hD hS hl)
theorem g_lload (C : Cx p s m args c g A cc nL Ts own) {i : Nat} {x : Int64} (hd : decode cc pc = .ok (.lload i, 2)) (hv : lv[i]? = some (some (.long x))) (n : Nat) (hn : pc + 2 = n) (kk : Gm p l e R s m args below meth c Q g A nL cells slots ws lv (.long x :: st) n) : Gm p l e R s m args below meth c Q g A nL cells slots ws lv (st) pc := by
  subst hn
  exact fun H locs ls hP hD hS hl => lv_lload C.1.1 C.1.2.1 hd (hl.2.2 _ _ hv) (kk H locs ls hP hD hS hl)
theorem g_aload_n (C : Cx p s m args c g A cc nL Ts own) {k : Fin 4} {x : Nat} (hd : decode cc pc = .ok (.aload_n k, 1)) (hv : lv[(k : Nat)]? = some (some (.ref x))) (n : Nat) (hn : pc + 1 = n) (kk : Gm p l e R s m args below meth c Q g A nL cells slots ws lv (.ref x :: st) n) : Gm p l e R s m args below meth c Q g A nL cells slots ws lv (st) pc := by
  subst hn
  exact fun H locs ls hP hD hS hl => lv_aload_n C.1.1 C.1.2.1 hd rfl (hl.2.2 _ _ hv) (kk H locs ls hP hD hS hl)
theorem g_aload (C : Cx p s m args c g A cc nL Ts own) {i : Nat} {x : Nat} (hd : decode cc pc = .ok (.aload i, 2)) (hv : lv[i]? = some (some (.ref x))) (n : Nat) (hn : pc + 2 = n) (kk : Gm p l e R s m args below meth c Q g A nL cells slots ws lv (.ref x :: st) n) : Gm p l e R s m args below meth c Q g A nL cells slots ws lv (st) pc := by
  subst hn
  exact fun H locs ls hP hD hS hl => lv_aload C.1.1 C.1.2.1 hd (hl.2.2 _ _ hv) (kk H locs ls hP hD hS hl)
theorem g_aload_nN (C : Cx p s m args c g A cc nL Ts own) {k : Fin 4} (hd : decode cc pc = .ok (.aload_n k, 1)) (hv : lv[(k : Nat)]? = some (some .null)) (n : Nat) (hn : pc + 1 = n) (kk : Gm p l e R s m args below meth c Q g A nL cells slots ws lv (.null :: st) n) : Gm p l e R s m args below meth c Q g A nL cells slots ws lv (st) pc := by
  subst hn
  exact fun H locs ls hP hD hS hl => lv_aload_nN C.1.1 C.1.2.1 hd rfl (hl.2.2 _ _ hv) (kk H locs ls hP hD hS hl)
theorem g_aloadN (C : Cx p s m args c g A cc nL Ts own) {i : Nat} (hd : decode cc pc = .ok (.aload i, 2)) (hv : lv[i]? = some (some .null)) (n : Nat) (hn : pc + 2 = n) (kk : Gm p l e R s m args below meth c Q g A nL cells slots ws lv (.null :: st) n) : Gm p l e R s m args below meth c Q g A nL cells slots ws lv (st) pc := by
  subst hn
  exact fun H locs ls hP hD hS hl => lv_aloadN C.1.1 C.1.2.1 hd (hl.2.2 _ _ hv) (kk H locs ls hP hD hS hl)
theorem g_istore_n (C : Cx p s m args c g A cc nL Ts own) {k : Fin 4} {x : Int32} (hd : decode cc pc = .ok (.istore_n k, 1)) (lv1 : List (Option Value)) (hb : (k : Nat) < nL) (hp : lvP lv k = true) (he : lv.set k (some (.int x)) = lv1) (n : Nat) (hn : pc + 1 = n) (kk : Gm p l e R s m args below meth c Q g A nL cells slots ws lv1 (st) n) : Gm p l e R s m args below meth c Q g A nL cells slots ws lv (.int x :: st) pc := by
  subst hn
  exact fun H locs ls hP hD hS hl => lv_istore_n C.1.1 C.1.2.1 hd rfl hl.has hb rfl (fun ls1 h1 => kk H locs ls1 hP hD hS (he ▸ lvH.st1 hp h1))
theorem g_istore (C : Cx p s m args c g A cc nL Ts own) {i : Nat} {x : Int32} (hd : decode cc pc = .ok (.istore i, 2)) (lv1 : List (Option Value)) (hb : i < nL) (hp : lvP lv i = true) (he : lv.set i (some (.int x)) = lv1) (n : Nat) (hn : pc + 2 = n) (kk : Gm p l e R s m args below meth c Q g A nL cells slots ws lv1 (st) n) : Gm p l e R s m args below meth c Q g A nL cells slots ws lv (.int x :: st) pc := by
  subst hn
  exact fun H locs ls hP hD hS hl => lv_istore C.1.1 C.1.2.1 hd hl.has hb rfl (fun ls1 h1 => kk H locs ls1 hP hD hS (he ▸ lvH.st1 hp h1))
theorem g_astore_n (C : Cx p s m args c g A cc nL Ts own) {k : Fin 4} {x : Nat} (hd : decode cc pc = .ok (.astore_n k, 1)) (lv1 : List (Option Value)) (hb : (k : Nat) < nL) (hp : lvP lv k = true) (he : lv.set k (some (.ref x)) = lv1) (n : Nat) (hn : pc + 1 = n) (kk : Gm p l e R s m args below meth c Q g A nL cells slots ws lv1 (st) n) : Gm p l e R s m args below meth c Q g A nL cells slots ws lv (.ref x :: st) pc := by
  subst hn
  exact fun H locs ls hP hD hS hl => lv_astore_n C.1.1 C.1.2.1 hd rfl hl.has hb rfl (fun ls1 h1 => kk H locs ls1 hP hD hS (he ▸ lvH.st1 hp h1))
theorem g_astore (C : Cx p s m args c g A cc nL Ts own) {i : Nat} {x : Nat} (hd : decode cc pc = .ok (.astore i, 2)) (lv1 : List (Option Value)) (hb : i < nL) (hp : lvP lv i = true) (he : lv.set i (some (.ref x)) = lv1) (n : Nat) (hn : pc + 2 = n) (kk : Gm p l e R s m args below meth c Q g A nL cells slots ws lv1 (st) n) : Gm p l e R s m args below meth c Q g A nL cells slots ws lv (.ref x :: st) pc := by
  subst hn
  exact fun H locs ls hP hD hS hl => lv_astore C.1.1 C.1.2.1 hd hl.has hb rfl (fun ls1 h1 => kk H locs ls1 hP hD hS (he ▸ lvH.st1 hp h1))
theorem g_astore_nN (C : Cx p s m args c g A cc nL Ts own) {k : Fin 4} (hd : decode cc pc = .ok (.astore_n k, 1)) (lv1 : List (Option Value)) (hb : (k : Nat) < nL) (hp : lvP lv k = true) (he : lv.set k (some .null) = lv1) (n : Nat) (hn : pc + 1 = n) (kk : Gm p l e R s m args below meth c Q g A nL cells slots ws lv1 (st) n) : Gm p l e R s m args below meth c Q g A nL cells slots ws lv (.null :: st) pc := by
  subst hn
  exact fun H locs ls hP hD hS hl => lv_astore_nN C.1.1 C.1.2.1 hd rfl hl.has hb rfl (fun ls1 h1 => kk H locs ls1 hP hD hS (he ▸ lvH.st1 hp h1))
theorem g_astoreN (C : Cx p s m args c g A cc nL Ts own) {i : Nat} (hd : decode cc pc = .ok (.astore i, 2)) (lv1 : List (Option Value)) (hb : i < nL) (hp : lvP lv i = true) (he : lv.set i (some .null) = lv1) (n : Nat) (hn : pc + 2 = n) (kk : Gm p l e R s m args below meth c Q g A nL cells slots ws lv1 (st) n) : Gm p l e R s m args below meth c Q g A nL cells slots ws lv (.null :: st) pc := by
  subst hn
  exact fun H locs ls hP hD hS hl => lv_astoreN C.1.1 C.1.2.1 hd hl.has hb rfl (fun ls1 h1 => kk H locs ls1 hP hD hS (he ▸ lvH.st1 hp h1))
theorem g_lstore_n (C : Cx p s m args c g A cc nL Ts own) {k : Fin 4} {x : Int64} (hd : decode cc pc = .ok (.lstore_n k, 1)) (lv1 : List (Option Value)) (hb : (k : Nat) + 1 < nL) (hp : lvP lv k = true) (he : (lv.set k (some (.long x))).set (k + 1) none = lv1) (n : Nat) (hn : pc + 1 = n) (kk : Gm p l e R s m args below meth c Q g A nL cells slots ws lv1 (st) n) : Gm p l e R s m args below meth c Q g A nL cells slots ws lv (.long x :: st) pc := by
  subst hn
  exact fun H locs ls hP hD hS hl => lv_lstore_n C.1.1 C.1.2.1 hd rfl hl.has hb rfl (fun ls1 h1 => kk H locs ls1 hP hD hS (he ▸ lvH.st2 hp h1))
theorem g_lstore (C : Cx p s m args c g A cc nL Ts own) {i : Nat} {x : Int64} (hd : decode cc pc = .ok (.lstore i, 2)) (lv1 : List (Option Value)) (hb : i + 1 < nL) (hp : lvP lv i = true) (he : (lv.set i (some (.long x))).set (i + 1) none = lv1) (n : Nat) (hn : pc + 2 = n) (kk : Gm p l e R s m args below meth c Q g A nL cells slots ws lv1 (st) n) : Gm p l e R s m args below meth c Q g A nL cells slots ws lv (.long x :: st) pc := by
  subst hn
  exact fun H locs ls hP hD hS hl => lv_lstore C.1.1 C.1.2.1 hd hl.has hb rfl (fun ls1 h1 => kk H locs ls1 hP hD hS (he ▸ lvH.st2 hp h1))
theorem g_iinc (C : Cx p s m args c g A cc nL Ts own) {i : Nat} {z : Int} {x : Int32} (hd : decode cc pc = .ok (.iinc i z, 3)) (hv : lv[i]? = some (some (.int x))) (dz : Int32) (hdz : Int32.ofInt z = dz) (lv1 : List (Option Value)) (hb : i < nL) (hp : lvP lv i = true) (he : lv.set i (some (.int (x + dz))) = lv1) (n : Nat) (hn : pc + 3 = n) (kk : Gm p l e R s m args below meth c Q g A nL cells slots ws lv1 (st) n) : Gm p l e R s m args below meth c Q g A nL cells slots ws lv (st) pc := by
  subst hn
  exact fun H locs ls hP hD hS hl => by
    have hx : (i, Value.int x) ∈ lvL 0 lv := (lvL_mem lv 0 i _).mpr ⟨i, by omega, hv⟩
    obtain ⟨k, hk⟩ := List.getElem?_of_mem hx
    exact lv_iinc C.1.1 C.1.2.1 hd hl.has hk (by rw [hdz]) hb rfl (fun ls1 h1 => kk H locs ls1 hP hD hS (he ▸ lvH.st1 hp h1))
theorem g_lv (lw : List (Option Value)) (h : lvLe lw lv) (kk : Gm p l e R s m args below meth c Q g A nL cells slots ws lw (st) pc) : Gm p l e R s m args below meth c Q g A nL cells slots ws lv (st) pc := fun H locs ls hP hD hS hl => kk H locs ls hP hD hS ⟨hl.1, hl.2.1, fun i v hi => hl.2.2 i v (h i v hi)⟩
theorem g_ws (ws1 : va_W) (h : ws = ws1) (kk : Gm p l e R s m args below meth c Q g A nL cells slots ws1 lv (st) pc) : Gm p l e R s m args below meth c Q g A nL cells slots ws lv (st) pc := h ▸ kk
theorem g_goto (C : Cx p s m args c g A cc nL Ts own) {off : Int} (hd : decode cc pc = .ok (.goto off, 3)) (n : Nat) (ht : (pc : Int) + off = (n : Int)) (kk : Gm p l e R s m args below meth c Q g A nL cells slots ws lv (st) n) : Gm p l e R s m args below meth c Q g A nL cells slots ws lv (st) pc := fun H locs ls hP hD hS hl => lv_goto C.1.1 C.1.2.1 hd ht (kk H locs ls hP hD hS hl)
theorem g_icmp_eq (C : Cx p s m args c g A cc nL Ts own) {x y : Int32} {off : Int} (hd : decode cc pc = .ok (.if_icmp .eq off, 3)) {α : Type} {aT aF aR : α} (hR : (if x = y then aT else aF) = aR) (n n3 : Nat) (ht : (pc : Int) + off = (n : Int)) (h3 : pc + 3 = n3) (kt : x = y → aT = aR → Gm p l e R s m args below meth c Q g A nL cells slots ws lv (st) n) (kf : ¬ x = y → aF = aR → Gm p l e R s m args below meth c Q g A nL cells slots ws lv (st) n3) : Gm p l e R s m args below meth c Q g A nL cells slots ws lv (.int y :: .int x :: st) pc := by
  subst h3
  exact fun H locs ls hP hD hS hl => lv_icmp_eq C.1.1 C.1.2.1 hd ht (fun c1 => kt (c1) ((if_pos c1).symm.trans hR) H locs ls hP hD hS hl) (fun c1 => kf (c1) ((if_neg c1).symm.trans hR) H locs ls hP hD hS hl)
theorem g_icmp_eqT (C : Cx p s m args c g A cc nL Ts own) {x y : Int32} {off : Int} (hd : decode cc pc = .ok (.if_icmp .eq off, 3)) (hc : x = y) (n : Nat) (ht : (pc : Int) + off = (n : Int)) (kt : Gm p l e R s m args below meth c Q g A nL cells slots ws lv (st) n) : Gm p l e R s m args below meth c Q g A nL cells slots ws lv (.int y :: .int x :: st) pc := fun H locs ls hP hD hS hl => lv_icmp_eq C.1.1 C.1.2.1 hd ht (fun _ => kt H locs ls hP hD hS hl) (fun c1 => absurd hc c1)
theorem g_icmp_eqF (C : Cx p s m args c g A cc nL Ts own) {x y : Int32} {off : Int} (hd : decode cc pc = .ok (.if_icmp .eq off, 3)) (hc : ¬ x = y) (n n3 : Nat) (ht : (pc : Int) + off = (n : Int)) (h3 : pc + 3 = n3) (kf : Gm p l e R s m args below meth c Q g A nL cells slots ws lv (st) n3) : Gm p l e R s m args below meth c Q g A nL cells slots ws lv (.int y :: .int x :: st) pc := by
  subst h3
  exact fun H locs ls hP hD hS hl => lv_icmp_eq C.1.1 C.1.2.1 hd ht (fun c1 => absurd c1 hc) (fun _ => kf H locs ls hP hD hS hl)
theorem g_if_eq (C : Cx p s m args c g A cc nL Ts own) {x : Int32} {off : Int} (hd : decode cc pc = .ok (.ifCond .eq off, 3)) {α : Type} {aT aF aR : α} (hR : (if x = 0 then aT else aF) = aR) (n n3 : Nat) (ht : (pc : Int) + off = (n : Int)) (h3 : pc + 3 = n3) (kt : x = 0 → aT = aR → Gm p l e R s m args below meth c Q g A nL cells slots ws lv (st) n) (kf : ¬ x = 0 → aF = aR → Gm p l e R s m args below meth c Q g A nL cells slots ws lv (st) n3) : Gm p l e R s m args below meth c Q g A nL cells slots ws lv (.int x :: st) pc := by
  subst h3
  exact fun H locs ls hP hD hS hl => lv_if_eq C.1.1 C.1.2.1 hd ht (fun c1 => kt (c1) ((if_pos c1).symm.trans hR) H locs ls hP hD hS hl) (fun c1 => kf (c1) ((if_neg c1).symm.trans hR) H locs ls hP hD hS hl)
theorem g_if_eqT (C : Cx p s m args c g A cc nL Ts own) {x : Int32} {off : Int} (hd : decode cc pc = .ok (.ifCond .eq off, 3)) (hc : x = 0) (n : Nat) (ht : (pc : Int) + off = (n : Int)) (kt : Gm p l e R s m args below meth c Q g A nL cells slots ws lv (st) n) : Gm p l e R s m args below meth c Q g A nL cells slots ws lv (.int x :: st) pc := fun H locs ls hP hD hS hl => lv_if_eq C.1.1 C.1.2.1 hd ht (fun _ => kt H locs ls hP hD hS hl) (fun c1 => absurd hc c1)
theorem g_if_eqF (C : Cx p s m args c g A cc nL Ts own) {x : Int32} {off : Int} (hd : decode cc pc = .ok (.ifCond .eq off, 3)) (hc : ¬ x = 0) (n n3 : Nat) (ht : (pc : Int) + off = (n : Int)) (h3 : pc + 3 = n3) (kf : Gm p l e R s m args below meth c Q g A nL cells slots ws lv (st) n3) : Gm p l e R s m args below meth c Q g A nL cells slots ws lv (.int x :: st) pc := by
  subst h3
  exact fun H locs ls hP hD hS hl => lv_if_eq C.1.1 C.1.2.1 hd ht (fun c1 => absurd c1 hc) (fun _ => kf H locs ls hP hD hS hl)
theorem g_icmp_ne (C : Cx p s m args c g A cc nL Ts own) {x y : Int32} {off : Int} (hd : decode cc pc = .ok (.if_icmp .ne off, 3)) {α : Type} {aT aF aR : α} (hR : (if x = y then aF else aT) = aR) (n n3 : Nat) (ht : (pc : Int) + off = (n : Int)) (h3 : pc + 3 = n3) (kt : ¬ x = y → aT = aR → Gm p l e R s m args below meth c Q g A nL cells slots ws lv (st) n) (kf : x = y → aF = aR → Gm p l e R s m args below meth c Q g A nL cells slots ws lv (st) n3) : Gm p l e R s m args below meth c Q g A nL cells slots ws lv (.int y :: .int x :: st) pc := by
  subst h3
  exact fun H locs ls hP hD hS hl => lv_icmp_ne C.1.1 C.1.2.1 hd ht (fun c1 => kt (c1) ((if_neg c1).symm.trans hR) H locs ls hP hD hS hl) (fun c1 => kf (c1) ((if_pos c1).symm.trans hR) H locs ls hP hD hS hl)
theorem g_icmp_neT (C : Cx p s m args c g A cc nL Ts own) {x y : Int32} {off : Int} (hd : decode cc pc = .ok (.if_icmp .ne off, 3)) (hc : ¬ x = y) (n : Nat) (ht : (pc : Int) + off = (n : Int)) (kt : Gm p l e R s m args below meth c Q g A nL cells slots ws lv (st) n) : Gm p l e R s m args below meth c Q g A nL cells slots ws lv (.int y :: .int x :: st) pc := fun H locs ls hP hD hS hl => lv_icmp_ne C.1.1 C.1.2.1 hd ht (fun _ => kt H locs ls hP hD hS hl) (fun c1 => absurd c1 hc)
theorem g_icmp_neF (C : Cx p s m args c g A cc nL Ts own) {x y : Int32} {off : Int} (hd : decode cc pc = .ok (.if_icmp .ne off, 3)) (hc : x = y) (n n3 : Nat) (ht : (pc : Int) + off = (n : Int)) (h3 : pc + 3 = n3) (kf : Gm p l e R s m args below meth c Q g A nL cells slots ws lv (st) n3) : Gm p l e R s m args below meth c Q g A nL cells slots ws lv (.int y :: .int x :: st) pc := by
  subst h3
  exact fun H locs ls hP hD hS hl => lv_icmp_ne C.1.1 C.1.2.1 hd ht (fun c1 => absurd hc c1) (fun _ => kf H locs ls hP hD hS hl)
theorem g_if_ne (C : Cx p s m args c g A cc nL Ts own) {x : Int32} {off : Int} (hd : decode cc pc = .ok (.ifCond .ne off, 3)) {α : Type} {aT aF aR : α} (hR : (if x = 0 then aF else aT) = aR) (n n3 : Nat) (ht : (pc : Int) + off = (n : Int)) (h3 : pc + 3 = n3) (kt : ¬ x = 0 → aT = aR → Gm p l e R s m args below meth c Q g A nL cells slots ws lv (st) n) (kf : x = 0 → aF = aR → Gm p l e R s m args below meth c Q g A nL cells slots ws lv (st) n3) : Gm p l e R s m args below meth c Q g A nL cells slots ws lv (.int x :: st) pc := by
  subst h3
  exact fun H locs ls hP hD hS hl => lv_if_ne C.1.1 C.1.2.1 hd ht (fun c1 => kt (c1) ((if_neg c1).symm.trans hR) H locs ls hP hD hS hl) (fun c1 => kf (c1) ((if_pos c1).symm.trans hR) H locs ls hP hD hS hl)
theorem g_if_neT (C : Cx p s m args c g A cc nL Ts own) {x : Int32} {off : Int} (hd : decode cc pc = .ok (.ifCond .ne off, 3)) (hc : ¬ x = 0) (n : Nat) (ht : (pc : Int) + off = (n : Int)) (kt : Gm p l e R s m args below meth c Q g A nL cells slots ws lv (st) n) : Gm p l e R s m args below meth c Q g A nL cells slots ws lv (.int x :: st) pc := fun H locs ls hP hD hS hl => lv_if_ne C.1.1 C.1.2.1 hd ht (fun _ => kt H locs ls hP hD hS hl) (fun c1 => absurd c1 hc)
theorem g_if_neF (C : Cx p s m args c g A cc nL Ts own) {x : Int32} {off : Int} (hd : decode cc pc = .ok (.ifCond .ne off, 3)) (hc : x = 0) (n n3 : Nat) (ht : (pc : Int) + off = (n : Int)) (h3 : pc + 3 = n3) (kf : Gm p l e R s m args below meth c Q g A nL cells slots ws lv (st) n3) : Gm p l e R s m args below meth c Q g A nL cells slots ws lv (.int x :: st) pc := by
  subst h3
  exact fun H locs ls hP hD hS hl => lv_if_ne C.1.1 C.1.2.1 hd ht (fun c1 => absurd hc c1) (fun _ => kf H locs ls hP hD hS hl)
theorem g_icmp_lt (C : Cx p s m args c g A cc nL Ts own) {x y : Int32} {off : Int} (hd : decode cc pc = .ok (.if_icmp .lt off, 3)) {α : Type} {aT aF aR : α} (hR : (if x < y then aT else aF) = aR) (n n3 : Nat) (ht : (pc : Int) + off = (n : Int)) (h3 : pc + 3 = n3) (kt : x < y → aT = aR → Gm p l e R s m args below meth c Q g A nL cells slots ws lv (st) n) (kf : ¬ x < y → aF = aR → Gm p l e R s m args below meth c Q g A nL cells slots ws lv (st) n3) : Gm p l e R s m args below meth c Q g A nL cells slots ws lv (.int y :: .int x :: st) pc := by
  subst h3
  exact fun H locs ls hP hD hS hl => lv_icmp_lt C.1.1 C.1.2.1 hd ht (fun c1 => kt (c1) ((if_pos c1).symm.trans hR) H locs ls hP hD hS hl) (fun c1 => kf (c1) ((if_neg c1).symm.trans hR) H locs ls hP hD hS hl)
theorem g_icmp_ltT (C : Cx p s m args c g A cc nL Ts own) {x y : Int32} {off : Int} (hd : decode cc pc = .ok (.if_icmp .lt off, 3)) (hc : x < y) (n : Nat) (ht : (pc : Int) + off = (n : Int)) (kt : Gm p l e R s m args below meth c Q g A nL cells slots ws lv (st) n) : Gm p l e R s m args below meth c Q g A nL cells slots ws lv (.int y :: .int x :: st) pc := fun H locs ls hP hD hS hl => lv_icmp_lt C.1.1 C.1.2.1 hd ht (fun _ => kt H locs ls hP hD hS hl) (fun c1 => absurd hc c1)
theorem g_icmp_ltF (C : Cx p s m args c g A cc nL Ts own) {x y : Int32} {off : Int} (hd : decode cc pc = .ok (.if_icmp .lt off, 3)) (hc : ¬ x < y) (n n3 : Nat) (ht : (pc : Int) + off = (n : Int)) (h3 : pc + 3 = n3) (kf : Gm p l e R s m args below meth c Q g A nL cells slots ws lv (st) n3) : Gm p l e R s m args below meth c Q g A nL cells slots ws lv (.int y :: .int x :: st) pc := by
  subst h3
  exact fun H locs ls hP hD hS hl => lv_icmp_lt C.1.1 C.1.2.1 hd ht (fun c1 => absurd c1 hc) (fun _ => kf H locs ls hP hD hS hl)
theorem g_if_lt (C : Cx p s m args c g A cc nL Ts own) {x : Int32} {off : Int} (hd : decode cc pc = .ok (.ifCond .lt off, 3)) {α : Type} {aT aF aR : α} (hR : (if x < 0 then aT else aF) = aR) (n n3 : Nat) (ht : (pc : Int) + off = (n : Int)) (h3 : pc + 3 = n3) (kt : x < 0 → aT = aR → Gm p l e R s m args below meth c Q g A nL cells slots ws lv (st) n) (kf : ¬ x < 0 → aF = aR → Gm p l e R s m args below meth c Q g A nL cells slots ws lv (st) n3) : Gm p l e R s m args below meth c Q g A nL cells slots ws lv (.int x :: st) pc := by
  subst h3
  exact fun H locs ls hP hD hS hl => lv_if_lt C.1.1 C.1.2.1 hd ht (fun c1 => kt (c1) ((if_pos c1).symm.trans hR) H locs ls hP hD hS hl) (fun c1 => kf (c1) ((if_neg c1).symm.trans hR) H locs ls hP hD hS hl)
theorem g_if_ltT (C : Cx p s m args c g A cc nL Ts own) {x : Int32} {off : Int} (hd : decode cc pc = .ok (.ifCond .lt off, 3)) (hc : x < 0) (n : Nat) (ht : (pc : Int) + off = (n : Int)) (kt : Gm p l e R s m args below meth c Q g A nL cells slots ws lv (st) n) : Gm p l e R s m args below meth c Q g A nL cells slots ws lv (.int x :: st) pc := fun H locs ls hP hD hS hl => lv_if_lt C.1.1 C.1.2.1 hd ht (fun _ => kt H locs ls hP hD hS hl) (fun c1 => absurd hc c1)
theorem g_if_ltF (C : Cx p s m args c g A cc nL Ts own) {x : Int32} {off : Int} (hd : decode cc pc = .ok (.ifCond .lt off, 3)) (hc : ¬ x < 0) (n n3 : Nat) (ht : (pc : Int) + off = (n : Int)) (h3 : pc + 3 = n3) (kf : Gm p l e R s m args below meth c Q g A nL cells slots ws lv (st) n3) : Gm p l e R s m args below meth c Q g A nL cells slots ws lv (.int x :: st) pc := by
  subst h3
  exact fun H locs ls hP hD hS hl => lv_if_lt C.1.1 C.1.2.1 hd ht (fun c1 => absurd c1 hc) (fun _ => kf H locs ls hP hD hS hl)
theorem g_icmp_ge (C : Cx p s m args c g A cc nL Ts own) {x y : Int32} {off : Int} (hd : decode cc pc = .ok (.if_icmp .ge off, 3)) {α : Type} {aT aF aR : α} (hR : (if y ≤ x then aT else aF) = aR) (n n3 : Nat) (ht : (pc : Int) + off = (n : Int)) (h3 : pc + 3 = n3) (kt : y ≤ x → aT = aR → Gm p l e R s m args below meth c Q g A nL cells slots ws lv (st) n) (kf : ¬ y ≤ x → aF = aR → Gm p l e R s m args below meth c Q g A nL cells slots ws lv (st) n3) : Gm p l e R s m args below meth c Q g A nL cells slots ws lv (.int y :: .int x :: st) pc := by
  subst h3
  exact fun H locs ls hP hD hS hl => lv_icmp_ge C.1.1 C.1.2.1 hd ht (fun c1 => kt (c1) ((if_pos c1).symm.trans hR) H locs ls hP hD hS hl) (fun c1 => kf (c1) ((if_neg c1).symm.trans hR) H locs ls hP hD hS hl)
theorem g_icmp_geT (C : Cx p s m args c g A cc nL Ts own) {x y : Int32} {off : Int} (hd : decode cc pc = .ok (.if_icmp .ge off, 3)) (hc : y ≤ x) (n : Nat) (ht : (pc : Int) + off = (n : Int)) (kt : Gm p l e R s m args below meth c Q g A nL cells slots ws lv (st) n) : Gm p l e R s m args below meth c Q g A nL cells slots ws lv (.int y :: .int x :: st) pc := fun H locs ls hP hD hS hl => lv_icmp_ge C.1.1 C.1.2.1 hd ht (fun _ => kt H locs ls hP hD hS hl) (fun c1 => absurd hc c1)
theorem g_icmp_geF (C : Cx p s m args c g A cc nL Ts own) {x y : Int32} {off : Int} (hd : decode cc pc = .ok (.if_icmp .ge off, 3)) (hc : ¬ y ≤ x) (n n3 : Nat) (ht : (pc : Int) + off = (n : Int)) (h3 : pc + 3 = n3) (kf : Gm p l e R s m args below meth c Q g A nL cells slots ws lv (st) n3) : Gm p l e R s m args below meth c Q g A nL cells slots ws lv (.int y :: .int x :: st) pc := by
  subst h3
  exact fun H locs ls hP hD hS hl => lv_icmp_ge C.1.1 C.1.2.1 hd ht (fun c1 => absurd c1 hc) (fun _ => kf H locs ls hP hD hS hl)
theorem g_if_ge (C : Cx p s m args c g A cc nL Ts own) {x : Int32} {off : Int} (hd : decode cc pc = .ok (.ifCond .ge off, 3)) {α : Type} {aT aF aR : α} (hR : (if 0 ≤ x then aT else aF) = aR) (n n3 : Nat) (ht : (pc : Int) + off = (n : Int)) (h3 : pc + 3 = n3) (kt : 0 ≤ x → aT = aR → Gm p l e R s m args below meth c Q g A nL cells slots ws lv (st) n) (kf : ¬ 0 ≤ x → aF = aR → Gm p l e R s m args below meth c Q g A nL cells slots ws lv (st) n3) : Gm p l e R s m args below meth c Q g A nL cells slots ws lv (.int x :: st) pc := by
  subst h3
  exact fun H locs ls hP hD hS hl => lv_if_ge C.1.1 C.1.2.1 hd ht (fun c1 => kt (c1) ((if_pos c1).symm.trans hR) H locs ls hP hD hS hl) (fun c1 => kf (c1) ((if_neg c1).symm.trans hR) H locs ls hP hD hS hl)
theorem g_if_geT (C : Cx p s m args c g A cc nL Ts own) {x : Int32} {off : Int} (hd : decode cc pc = .ok (.ifCond .ge off, 3)) (hc : 0 ≤ x) (n : Nat) (ht : (pc : Int) + off = (n : Int)) (kt : Gm p l e R s m args below meth c Q g A nL cells slots ws lv (st) n) : Gm p l e R s m args below meth c Q g A nL cells slots ws lv (.int x :: st) pc := fun H locs ls hP hD hS hl => lv_if_ge C.1.1 C.1.2.1 hd ht (fun _ => kt H locs ls hP hD hS hl) (fun c1 => absurd hc c1)
theorem g_if_geF (C : Cx p s m args c g A cc nL Ts own) {x : Int32} {off : Int} (hd : decode cc pc = .ok (.ifCond .ge off, 3)) (hc : ¬ 0 ≤ x) (n n3 : Nat) (ht : (pc : Int) + off = (n : Int)) (h3 : pc + 3 = n3) (kf : Gm p l e R s m args below meth c Q g A nL cells slots ws lv (st) n3) : Gm p l e R s m args below meth c Q g A nL cells slots ws lv (.int x :: st) pc := by
  subst h3
  exact fun H locs ls hP hD hS hl => lv_if_ge C.1.1 C.1.2.1 hd ht (fun c1 => absurd c1 hc) (fun _ => kf H locs ls hP hD hS hl)
theorem g_icmp_gt (C : Cx p s m args c g A cc nL Ts own) {x y : Int32} {off : Int} (hd : decode cc pc = .ok (.if_icmp .gt off, 3)) {α : Type} {aT aF aR : α} (hR : (if y < x then aT else aF) = aR) (n n3 : Nat) (ht : (pc : Int) + off = (n : Int)) (h3 : pc + 3 = n3) (kt : y < x → aT = aR → Gm p l e R s m args below meth c Q g A nL cells slots ws lv (st) n) (kf : ¬ y < x → aF = aR → Gm p l e R s m args below meth c Q g A nL cells slots ws lv (st) n3) : Gm p l e R s m args below meth c Q g A nL cells slots ws lv (.int y :: .int x :: st) pc := by
  subst h3
  exact fun H locs ls hP hD hS hl => lv_icmp_gt C.1.1 C.1.2.1 hd ht (fun c1 => kt (c1) ((if_pos c1).symm.trans hR) H locs ls hP hD hS hl) (fun c1 => kf (c1) ((if_neg c1).symm.trans hR) H locs ls hP hD hS hl)
theorem g_icmp_gtT (C : Cx p s m args c g A cc nL Ts own) {x y : Int32} {off : Int} (hd : decode cc pc = .ok (.if_icmp .gt off, 3)) (hc : y < x) (n : Nat) (ht : (pc : Int) + off = (n : Int)) (kt : Gm p l e R s m args below meth c Q g A nL cells slots ws lv (st) n) : Gm p l e R s m args below meth c Q g A nL cells slots ws lv (.int y :: .int x :: st) pc := fun H locs ls hP hD hS hl => lv_icmp_gt C.1.1 C.1.2.1 hd ht (fun _ => kt H locs ls hP hD hS hl) (fun c1 => absurd hc c1)
theorem g_icmp_gtF (C : Cx p s m args c g A cc nL Ts own) {x y : Int32} {off : Int} (hd : decode cc pc = .ok (.if_icmp .gt off, 3)) (hc : ¬ y < x) (n n3 : Nat) (ht : (pc : Int) + off = (n : Int)) (h3 : pc + 3 = n3) (kf : Gm p l e R s m args below meth c Q g A nL cells slots ws lv (st) n3) : Gm p l e R s m args below meth c Q g A nL cells slots ws lv (.int y :: .int x :: st) pc := by
  subst h3
  exact fun H locs ls hP hD hS hl => lv_icmp_gt C.1.1 C.1.2.1 hd ht (fun c1 => absurd c1 hc) (fun _ => kf H locs ls hP hD hS hl)
theorem g_if_gt (C : Cx p s m args c g A cc nL Ts own) {x : Int32} {off : Int} (hd : decode cc pc = .ok (.ifCond .gt off, 3)) {α : Type} {aT aF aR : α} (hR : (if 0 < x then aT else aF) = aR) (n n3 : Nat) (ht : (pc : Int) + off = (n : Int)) (h3 : pc + 3 = n3) (kt : 0 < x → aT = aR → Gm p l e R s m args below meth c Q g A nL cells slots ws lv (st) n) (kf : ¬ 0 < x → aF = aR → Gm p l e R s m args below meth c Q g A nL cells slots ws lv (st) n3) : Gm p l e R s m args below meth c Q g A nL cells slots ws lv (.int x :: st) pc := by
  subst h3
  exact fun H locs ls hP hD hS hl => lv_if_gt C.1.1 C.1.2.1 hd ht (fun c1 => kt (c1) ((if_pos c1).symm.trans hR) H locs ls hP hD hS hl) (fun c1 => kf (c1) ((if_neg c1).symm.trans hR) H locs ls hP hD hS hl)
theorem g_if_gtT (C : Cx p s m args c g A cc nL Ts own) {x : Int32} {off : Int} (hd : decode cc pc = .ok (.ifCond .gt off, 3)) (hc : 0 < x) (n : Nat) (ht : (pc : Int) + off = (n : Int)) (kt : Gm p l e R s m args below meth c Q g A nL cells slots ws lv (st) n) : Gm p l e R s m args below meth c Q g A nL cells slots ws lv (.int x :: st) pc := fun H locs ls hP hD hS hl => lv_if_gt C.1.1 C.1.2.1 hd ht (fun _ => kt H locs ls hP hD hS hl) (fun c1 => absurd hc c1)
theorem g_if_gtF (C : Cx p s m args c g A cc nL Ts own) {x : Int32} {off : Int} (hd : decode cc pc = .ok (.ifCond .gt off, 3)) (hc : ¬ 0 < x) (n n3 : Nat) (ht : (pc : Int) + off = (n : Int)) (h3 : pc + 3 = n3) (kf : Gm p l e R s m args below meth c Q g A nL cells slots ws lv (st) n3) : Gm p l e R s m args below meth c Q g A nL cells slots ws lv (.int x :: st) pc := by
  subst h3
  exact fun H locs ls hP hD hS hl => lv_if_gt C.1.1 C.1.2.1 hd ht (fun c1 => absurd c1 hc) (fun _ => kf H locs ls hP hD hS hl)
theorem g_icmp_le (C : Cx p s m args c g A cc nL Ts own) {x y : Int32} {off : Int} (hd : decode cc pc = .ok (.if_icmp .le off, 3)) {α : Type} {aT aF aR : α} (hR : (if x ≤ y then aT else aF) = aR) (n n3 : Nat) (ht : (pc : Int) + off = (n : Int)) (h3 : pc + 3 = n3) (kt : x ≤ y → aT = aR → Gm p l e R s m args below meth c Q g A nL cells slots ws lv (st) n) (kf : ¬ x ≤ y → aF = aR → Gm p l e R s m args below meth c Q g A nL cells slots ws lv (st) n3) : Gm p l e R s m args below meth c Q g A nL cells slots ws lv (.int y :: .int x :: st) pc := by
  subst h3
  exact fun H locs ls hP hD hS hl => lv_icmp_le C.1.1 C.1.2.1 hd ht (fun c1 => kt (c1) ((if_pos c1).symm.trans hR) H locs ls hP hD hS hl) (fun c1 => kf (c1) ((if_neg c1).symm.trans hR) H locs ls hP hD hS hl)
theorem g_icmp_leT (C : Cx p s m args c g A cc nL Ts own) {x y : Int32} {off : Int} (hd : decode cc pc = .ok (.if_icmp .le off, 3)) (hc : x ≤ y) (n : Nat) (ht : (pc : Int) + off = (n : Int)) (kt : Gm p l e R s m args below meth c Q g A nL cells slots ws lv (st) n) : Gm p l e R s m args below meth c Q g A nL cells slots ws lv (.int y :: .int x :: st) pc := fun H locs ls hP hD hS hl => lv_icmp_le C.1.1 C.1.2.1 hd ht (fun _ => kt H locs ls hP hD hS hl) (fun c1 => absurd hc c1)
theorem g_icmp_leF (C : Cx p s m args c g A cc nL Ts own) {x y : Int32} {off : Int} (hd : decode cc pc = .ok (.if_icmp .le off, 3)) (hc : ¬ x ≤ y) (n n3 : Nat) (ht : (pc : Int) + off = (n : Int)) (h3 : pc + 3 = n3) (kf : Gm p l e R s m args below meth c Q g A nL cells slots ws lv (st) n3) : Gm p l e R s m args below meth c Q g A nL cells slots ws lv (.int y :: .int x :: st) pc := by
  subst h3
  exact fun H locs ls hP hD hS hl => lv_icmp_le C.1.1 C.1.2.1 hd ht (fun c1 => absurd c1 hc) (fun _ => kf H locs ls hP hD hS hl)
theorem g_if_le (C : Cx p s m args c g A cc nL Ts own) {x : Int32} {off : Int} (hd : decode cc pc = .ok (.ifCond .le off, 3)) {α : Type} {aT aF aR : α} (hR : (if x ≤ 0 then aT else aF) = aR) (n n3 : Nat) (ht : (pc : Int) + off = (n : Int)) (h3 : pc + 3 = n3) (kt : x ≤ 0 → aT = aR → Gm p l e R s m args below meth c Q g A nL cells slots ws lv (st) n) (kf : ¬ x ≤ 0 → aF = aR → Gm p l e R s m args below meth c Q g A nL cells slots ws lv (st) n3) : Gm p l e R s m args below meth c Q g A nL cells slots ws lv (.int x :: st) pc := by
  subst h3
  exact fun H locs ls hP hD hS hl => lv_if_le C.1.1 C.1.2.1 hd ht (fun c1 => kt (c1) ((if_pos c1).symm.trans hR) H locs ls hP hD hS hl) (fun c1 => kf (c1) ((if_neg c1).symm.trans hR) H locs ls hP hD hS hl)
theorem g_if_leT (C : Cx p s m args c g A cc nL Ts own) {x : Int32} {off : Int} (hd : decode cc pc = .ok (.ifCond .le off, 3)) (hc : x ≤ 0) (n : Nat) (ht : (pc : Int) + off = (n : Int)) (kt : Gm p l e R s m args below meth c Q g A nL cells slots ws lv (st) n) : Gm p l e R s m args below meth c Q g A nL cells slots ws lv (.int x :: st) pc := fun H locs ls hP hD hS hl => lv_if_le C.1.1 C.1.2.1 hd ht (fun _ => kt H locs ls hP hD hS hl) (fun c1 => absurd hc c1)
theorem g_if_leF (C : Cx p s m args c g A cc nL Ts own) {x : Int32} {off : Int} (hd : decode cc pc = .ok (.ifCond .le off, 3)) (hc : ¬ x ≤ 0) (n n3 : Nat) (ht : (pc : Int) + off = (n : Int)) (h3 : pc + 3 = n3) (kf : Gm p l e R s m args below meth c Q g A nL cells slots ws lv (st) n3) : Gm p l e R s m args below meth c Q g A nL cells slots ws lv (.int x :: st) pc := by
  subst h3
  exact fun H locs ls hP hD hS hl => lv_if_le C.1.1 C.1.2.1 hd ht (fun c1 => absurd c1 hc) (fun _ => kf H locs ls hP hD hS hl)
theorem g_nonnull (C : Cx p s m args c g A cc nL Ts own) {x : Nat} {off : Int} (hd : decode cc pc = .ok (.ifnonnull off, 3)) (n : Nat) (ht : (pc : Int) + off = (n : Int)) (kk : Gm p l e R s m args below meth c Q g A nL cells slots ws lv (st) n) : Gm p l e R s m args below meth c Q g A nL cells slots ws lv (.ref x :: st) pc := fun H locs ls hP hD hS hl => lv_ifnonnull C.1.1 C.1.2.1 hd ht (kk H locs ls hP hD hS hl)
theorem g_nonnullN (C : Cx p s m args c g A cc nL Ts own) {off : Int} (hd : decode cc pc = .ok (.ifnonnull off, 3)) (n : Nat) (hn : pc + 3 = n) (kk : Gm p l e R s m args below meth c Q g A nL cells slots ws lv (st) n) : Gm p l e R s m args below meth c Q g A nL cells slots ws lv (.null :: st) pc := by
  subst hn
  exact fun H locs ls hP hD hS hl => lv_ifnonnullN C.1.1 C.1.2.1 hd (kk H locs ls hP hD hS hl)
theorem g_ifnull (C : Cx p s m args c g A cc nL Ts own) {x : Nat} {off : Int} (hd : decode cc pc = .ok (.ifnull off, 3)) (n : Nat) (hn : pc + 3 = n) (kk : Gm p l e R s m args below meth c Q g A nL cells slots ws lv (st) n) : Gm p l e R s m args below meth c Q g A nL cells slots ws lv (.ref x :: st) pc := by
  subst hn
  exact fun H locs ls hP hD hS hl => lv_ifnull C.1.1 C.1.2.1 hd (kk H locs ls hP hD hS hl)
theorem g_ifnullN (C : Cx p s m args c g A cc nL Ts own) {off : Int} (hd : decode cc pc = .ok (.ifnull off, 3)) (n : Nat) (ht : (pc : Int) + off = (n : Int)) (kk : Gm p l e R s m args below meth c Q g A nL cells slots ws lv (st) n) : Gm p l e R s m args below meth c Q g A nL cells slots ws lv (.null :: st) pc := fun H locs ls hP hD hS hl => lv_ifnullN C.1.1 C.1.2.1 hd ht (kk H locs ls hP hD hS hl)
theorem g_tableIn (C : Cx p s m args c g A cc nL Ts own) {dflt lo hi : Int} {offs : Array Int} {len : Nat} {x : Int32} (hd : decode cc pc = .ok (.tableswitch dflt lo hi offs, len)) (v : Int32) (hv : x = v) (off : Int) (n : Nat) (h : (decide (¬ v.toInt < lo) && decide (¬ hi < v.toInt) && decide (offs[(v.toInt - lo).toNat]? = some off) && decide ((pc : Int) + off = (n : Int))) = true) (kk : Gm p l e R s m args below meth c Q g A nL cells slots ws lv (st) n) : Gm p l e R s m args below meth c Q g A nL cells slots ws lv (.int x :: st) pc := by
  subst hv
  simp only [Bool.and_eq_true, decide_eq_true_eq] at h
  exact fun H locs ls hP hD hS hl => lv_tableIn C.1.1 C.1.2.1 hd h.1.1.1 h.1.1.2 h.1.2 h.2 (kk H locs ls hP hD hS hl)
theorem sw_out {x : Int32} {lo : Int} {k : Nat} (h : ∀ i : Nat, i < k → ¬ x = Int32.ofInt (lo + i)) (hl : -2147483648 ≤ lo) (hh : lo + k < 2147483648) : x.toInt < lo ∨ lo + k - 1 < x.toInt := by
  rcases Int.lt_or_le x.toInt lo with h1 | h1
  · exact Or.inl h1
  · rcases Int.lt_or_le (lo + k - 1) x.toInt with h2 | h2
    · exact Or.inr h2
    · refine absurd ?_ (h (x.toInt - lo).toNat (by omega))
      rw [show lo + ((x.toInt - lo).toNat : Int) = x.toInt by omega]
      exact (Int32.ofInt_toInt x).symm
theorem g_tableOut (C : Cx p s m args c g A cc nL Ts own) {dflt lo hi : Int} {offs : Array Int} {len : Nat} {x : Int32} (hd : decode cc pc = .ok (.tableswitch dflt lo hi offs, len)) (k : Nat) (hk : (decide (lo + k - 1 = hi) && decide (-2147483648 ≤ lo) && decide (lo + k < 2147483648)) = true) (h : ∀ i : Nat, i < k → ¬ x = Int32.ofInt (lo + i)) (n : Nat) (ht : (pc : Int) + dflt = (n : Int)) (kk : Gm p l e R s m args below meth c Q g A nL cells slots ws lv (st) n) : Gm p l e R s m args below meth c Q g A nL cells slots ws lv (.int x :: st) pc := by
  simp only [Bool.and_eq_true, decide_eq_true_eq] at hk
  exact fun H locs ls hP hD hS hl => lv_tableOut C.1.1 C.1.2.1 hd (by have := sw_out h hk.1.2 hk.2; rw [hk.1.1] at this; exact this) ht (kk H locs ls hP hD hS hl)
theorem g_get (C : Cx p s m args c g A cc nL Ts own) {ref Cn : String} {T : u_T} {N ci ix : Nat} {a : Nat} (hin : ∀ w ∈ u_ws Cn T N, w ∈ Ts) (q0 : Nat) {fs : List Value} (he : ws[q0]? = some (a, .inr (ci, fs))) (hc : vwCl[ci]? = some (Cn, T, N)) (k : Nat) (hk : k < N) (hlink : (Cond.fieldLink own ix ref (T k).2.1 (T k).2.2.1) ∈ Ts) (href : (T k).1 = ref) {v : Value} (hv : fs[k]? = some v) (hd : decode cc pc = .ok (.getfield ix, 3)) (n : Nat) (hn : pc + 3 = n) (kk : Gm p l e R s m args below meth c Q g A nL cells slots ws lv (v :: st) n) : Gm p l e R s m args below meth c Q g A nL cells slots ws lv (.ref a :: st) pc := by
  subst hn
  exact fun H locs ls hP hD hS hl => va_get C.1.1 C.1.2.1 C.1.2.2.2.2 hin C.1.2.2.2.1 C.2.2.1 hP q0 he hc k hk (C.1.2.2.2.2 _ hlink) (fun _ h9 => href ▸ h9) hv hd (kk H locs ls hP hD hS hl)
theorem g_getN (C : Cx p s m args c g A cc nL Ts own) {ref Cn host : String} {T : u_T} {N ci ix : Nat} {a : Nat} (hin : ∀ w ∈ u_ws Cn T N, w ∈ Ts) (q0 : Nat) {fs : List Value} (he : ws[q0]? = some (a, .inr (ci, fs))) (hc : vwCl[ci]? = some (Cn, T, N)) (k : Nat) (hk : k < N) (hlink : (own, ix, ref, (T k).2.1, (T k).2.2.1, host) ∈ nestF) (href : (T k).1 = ref) {v : Value} (hv : fs[k]? = some v) (hd : decode cc pc = .ok (.getfield ix, 3)) (n : Nat) (hn : pc + 3 = n) (kk : Gm p l e R s m args below meth c Q g A nL cells slots ws lv (v :: st) n) : Gm p l e R s m args below meth c Q g A nL cells slots ws lv (.ref a :: st) pc := by
  subst hn
  exact fun H locs ls hP hD hS hl => va_getN C.1.1 C.1.2.1 C.1.2.2.2.2 hin C.1.2.2.2.1 C.2.2.1 hP q0 he hc k hk (va_Nw.use rfl (C.2.2.2.2.2 _ hlink)) (fun _ h9 => href ▸ h9) hv hd (kk H locs ls hP hD hS hl)
theorem g_put (C : Cx p s m args c g A cc nL Ts own) {ref Cn : String} {T : u_T} {N ci ix : Nat} {a : Nat} (hin : ∀ w ∈ u_ws Cn T N, w ∈ Ts) (ty0 : Nat → FieldType) (hty : ∀ k, k < N → parseFieldDescriptor (T k).2.2.1 = some (ty0 k)) (hnm : ∀ a, a < N → ∀ b, b < N → a ≠ b → (T a).2.1 ≠ (T b).2.1) (q0 : Nat) {fs : List Value} (he : ws[q0]? = some (a, .inr (ci, fs))) (hc : vwCl[ci]? = some (Cn, T, N)) (k : Nat) (hk : k < N) (hlink : (Cond.fieldLink own ix ref (T k).2.1 (T k).2.2.1) ∈ Ts) (href : (T k).1 = ref) (hfin : (T k).2.2.2 = false) {v : Value} (hvn : narrow (ty0 k) v = v) (hvf : fits (ty0 k) v = true) (hl9 : k < fs.length) (hd : decode cc pc = .ok (.putfield ix, 3)) (ws1 : va_W) (hw : ws.set q0 (a, .inr (ci, fs.set k v)) = ws1) (n : Nat) (hn : pc + 3 = n) (kk : Gm p l e R s m args below meth c Q g A nL cells slots ws1 lv (st) n) : Gm p l e R s m args below meth c Q g A nL cells slots ws lv (v :: .ref a :: st) pc := by
  subst hn
  subst hw
  exact fun H locs ls hP hD hS hl => va_put C.1.1 C.1.2.1 C.1.2.2.2.2 hin ty0 hty hnm C.1.2.2.2.1 C.2.2.1 hP hD hS q0 he hc k hk (C.1.2.2.2.2 _ hlink) (fun _ h9 => href ▸ h9) hfin (hty k hk) hvn hvf hl9 hd (fun H1 locs1 hP1 hD1 hS1 => kk H1 locs1 ls hP1 hD1 hS1 hl)
theorem g_putN (C : Cx p s m args c g A cc nL Ts own) {ref Cn host : String} {T : u_T} {N ci ix : Nat} {a : Nat} (hin : ∀ w ∈ u_ws Cn T N, w ∈ Ts) (ty0 : Nat → FieldType) (hty : ∀ k, k < N → parseFieldDescriptor (T k).2.2.1 = some (ty0 k)) (hnm : ∀ a, a < N → ∀ b, b < N → a ≠ b → (T a).2.1 ≠ (T b).2.1) (q0 : Nat) {fs : List Value} (he : ws[q0]? = some (a, .inr (ci, fs))) (hc : vwCl[ci]? = some (Cn, T, N)) (k : Nat) (hk : k < N) (hlink : (own, ix, ref, (T k).2.1, (T k).2.2.1, host) ∈ nestF) (href : (T k).1 = ref) (hfin : (T k).2.2.2 = false) {v : Value} (hvn : narrow (ty0 k) v = v) (hvf : fits (ty0 k) v = true) (hl9 : k < fs.length) (hd : decode cc pc = .ok (.putfield ix, 3)) (ws1 : va_W) (hw : ws.set q0 (a, .inr (ci, fs.set k v)) = ws1) (n : Nat) (hn : pc + 3 = n) (kk : Gm p l e R s m args below meth c Q g A nL cells slots ws1 lv (st) n) : Gm p l e R s m args below meth c Q g A nL cells slots ws lv (v :: .ref a :: st) pc := by
  subst hn
  subst hw
  exact fun H locs ls hP hD hS hl => va_putN C.1.1 C.1.2.1 C.1.2.2.2.2 hin ty0 hty hnm C.1.2.2.2.1 C.2.2.1 hP hD hS q0 he hc k hk (va_Nw.use rfl (C.2.2.2.2.2 _ hlink)) (fun _ h9 => href ▸ h9) hfin (hty k hk) hvn hvf hl9 hd (fun H1 locs1 hP1 hD1 hS1 => kk H1 locs1 ls hP1 hD1 hS1 hl)
theorem g_putF (C : Cx p s m args c g A cc nL Ts own) {ref Cn : String} {T : u_T} {N ci ix : Nat} {a : Nat} (hin : ∀ w ∈ u_ws Cn T N, w ∈ Ts) (ty0 : Nat → FieldType) (hty : ∀ k, k < N → parseFieldDescriptor (T k).2.2.1 = some (ty0 k)) (hnm : ∀ a, a < N → ∀ b, b < N → a ≠ b → (T a).2.1 ≠ (T b).2.1) (q0 : Nat) {fs : List Value} (he : ws[q0]? = some (a, .inr (ci, fs))) (hc : vwCl[ci]? = some (Cn, T, N)) (k : Nat) (hk : k < N) (hlink : (Cond.fieldLink own ix ref (T k).2.1 (T k).2.2.1) ∈ Ts) (href : (T k).1 = ref) (hfin : (T k).2.2.2 = true) (hin2 : meth.name = "<init>") (hdecl : (T k).1 = own) {v : Value} (hvn : narrow (ty0 k) v = v) (hvf : fits (ty0 k) v = true) (hl9 : k < fs.length) (hd : decode cc pc = .ok (.putfield ix, 3)) (ws1 : va_W) (hw : ws.set q0 (a, .inr (ci, fs.set k v)) = ws1) (n : Nat) (hn : pc + 3 = n) (kk : Gm p l e R s m args below meth c Q g A nL cells slots ws1 lv (st) n) : Gm p l e R s m args below meth c Q g A nL cells slots ws lv (v :: .ref a :: st) pc := by
  subst hn
  subst hw
  exact fun H locs ls hP hD hS hl => va_putF C.1.1 C.1.2.1 C.1.2.2.2.2 hin ty0 hty hnm C.1.2.2.2.1 C.2.2.1 hP hD hS q0 he hc k hk (C.1.2.2.2.2 _ hlink) (fun _ h9 => href ▸ h9) hfin hin2 hdecl (hty k hk) hvn hvf hl9 hd (fun H1 locs1 hP1 hD1 hS1 => kk H1 locs1 ls hP1 hD1 hS1 hl)
theorem g_static (C : Cx p s m args c g A cc nL Ts own) {ix : Nat} (k : Nat) (hk : k < 4) (hlink : (Cond.fieldLink own ix RX3 (sNm k) "[I") ∈ Ts) (hd : decode cc pc = .ok (.getstatic ix, 3)) (n : Nat) (hn : pc + 3 = n) (kk : Gm p l e R s m args below meth c Q g A nL cells slots ws lv (.ref (g.2.2 k) :: st) n) : Gm p l e R s m args below meth c Q g A nL cells slots ws lv (st) pc := by
  subst hn
  exact fun H locs ls hP hD hS hl => va_gets C.1.1 C.1.2.1 (C.2.2.2.1 k hk).1 hS C.1.2.2.2.1 (C.1.2.2.2.2 _ hlink) (fun _ h9 => h9) hd (kk H locs ls hP hD hS hl)
theorem g_siald (C : Cx p s m args c g A cc nL Ts own) (k : Nat) (hk : k < 4) {i : Int32} (hi : vp_in i (sTb k).length) (hd : decode cc pc = .ok (.iaload, 1)) (n : Nat) (hn : pc + 1 = n) (kk : Gm p l e R s m args below meth c Q g A nL cells slots ws lv (.int (sFn k i.toNatClampNeg) :: st) n) : Gm p l e R s m args below meth c Q g A nL cells slots ws lv (.int i :: .ref (g.2.2 k) :: st) pc := by
  subst hn
  exact fun H locs ls hP hD hS hl => va_ti C.1.1 C.1.2.1 (C.2.2.2.1 k hk).2 hS hi rfl hd (kk H locs ls hP hD hS hl)
theorem g_salen (C : Cx p s m args c g A cc nL Ts own) (k : Nat) (hk : k < 4) (v : Int32) (hv : Int32.ofNat (sTb k).length = v) (hd : decode cc pc = .ok (.arraylength, 1)) (n : Nat) (hn : pc + 1 = n) (kk : Gm p l e R s m args below meth c Q g A nL cells slots ws lv (.int v :: st) n) : Gm p l e R s m args below meth c Q g A nL cells slots ws lv (.ref (g.2.2 k) :: st) pc := by
  subst hn
  exact fun H locs ls hP hD hS hl => va_tlen C.1.1 C.1.2.1 (C.2.2.2.1 k hk).2 hS hv hd (kk H locs ls hP hD hS hl)
theorem g_iald (C : Cx p s m args c g A cc nL Ts own) {a N : Nat} {f : Nat → Int32} (q0 : Nat) (ha : ws[q0]? = some (a, .inl (g.2.1 0, N, .inl f))) {i : Int32} (hi : vp_in i N) (hd : decode cc pc = .ok (.iaload, 1)) (n : Nat) (hn : pc + 1 = n) (kk : Gm p l e R s m args below meth c Q g A nL cells slots ws lv (.int (f i.toNatClampNeg) :: st) n) : Gm p l e R s m args below meth c Q g A nL cells slots ws lv (.int i :: .ref a :: st) pc := by
  subst hn
  exact fun H locs ls hP hD hS hl => va_iald C.1.1 C.1.2.1 C.2.2.1 hP q0 0 ha rfl hi hd (kk H locs ls hP hD hS hl)
theorem g_lald (C : Cx p s m args c g A cc nL Ts own) {a N : Nat} {f : Nat → Int64} (q0 : Nat) (ha : ws[q0]? = some (a, .inl (g.2.1 1, N, .inr (.inl f)))) {i : Int32} (hi : vp_in i N) (hd : decode cc pc = .ok (.laload, 1)) (n : Nat) (hn : pc + 1 = n) (kk : Gm p l e R s m args below meth c Q g A nL cells slots ws lv (.long (f i.toNatClampNeg) :: st) n) : Gm p l e R s m args below meth c Q g A nL cells slots ws lv (.int i :: .ref a :: st) pc := by
  subst hn
  exact fun H locs ls hP hD hS hl => va_lald C.1.1 C.1.2.1 C.2.2.1 hP q0 1 ha rfl hi hd (kk H locs ls hP hD hS hl)
theorem g_aald (C : Cx p s m args c g A cc nL Ts own) {a N : Nat} {f : Nat → Option Nat} (q0 : Nat) (ha : ws[q0]? = some (a, .inl (g.2.1 2, N, .inr (.inr (.inr (.inr f)))))) {i : Int32} (hi : vp_in i N) (v : Value) (hv : va_rf (f i.toNatClampNeg) = v) (hd : decode cc pc = .ok (.aaload, 1)) (n : Nat) (hn : pc + 1 = n) (kk : Gm p l e R s m args below meth c Q g A nL cells slots ws lv (v :: st) n) : Gm p l e R s m args below meth c Q g A nL cells slots ws lv (.int i :: .ref a :: st) pc := by
  subst hn
  subst hv
  exact fun H locs ls hP hD hS hl => va_aldq C.1.1 C.1.2.1 C.2.2.1 hP q0 2 (C := RX0) ha rfl hi hd (kk H locs ls hP hD hS hl)
theorem g_iast (C : Cx p s m args c g A cc nL Ts own) {a N : Nat} {f : Nat → Int32} (q0 : Nat) (ha : ws[q0]? = some (a, .inl (g.2.1 0, N, .inl f))) {i x : Int32} (hi : vp_in i N) (hd : decode cc pc = .ok (.iastore, 1)) (ws1 : va_W) (hw : ws.set q0 (a, .inl (g.2.1 0, N, .inl (upd f i.toNatClampNeg x))) = ws1) (n : Nat) (hn : pc + 1 = n) (kk : Gm p l e R s m args below meth c Q g A nL cells slots ws1 lv (st) n) : Gm p l e R s m args below meth c Q g A nL cells slots ws lv (.int x :: .int i :: .ref a :: st) pc := by
  subst hn
  subst hw
  exact fun H locs ls hP hD hS hl => va_iast C.1.1 C.1.2.1 C.2.2.1 hP hD hS q0 0 ha rfl hi hd (fun H1 locs1 hP1 hD1 hS1 => kk H1 locs1 ls hP1 hD1 hS1 hl)
theorem g_last (C : Cx p s m args c g A cc nL Ts own) {a N : Nat} {f : Nat → Int64} (q0 : Nat) (ha : ws[q0]? = some (a, .inl (g.2.1 1, N, .inr (.inl f)))) {i : Int32} {x : Int64} (hi : vp_in i N) (hd : decode cc pc = .ok (.lastore, 1)) (ws1 : va_W) (hw : ws.set q0 (a, .inl (g.2.1 1, N, .inr (.inl (vp_updL f i.toNatClampNeg x)))) = ws1) (n : Nat) (hn : pc + 1 = n) (kk : Gm p l e R s m args below meth c Q g A nL cells slots ws1 lv (st) n) : Gm p l e R s m args below meth c Q g A nL cells slots ws lv (.long x :: .int i :: .ref a :: st) pc := by
  subst hn
  subst hw
  exact fun H locs ls hP hD hS hl => va_last C.1.1 C.1.2.1 C.2.2.1 hP hD hS q0 1 ha rfl hi hd (fun H1 locs1 hP1 hD1 hS1 => kk H1 locs1 ls hP1 hD1 hS1 hl)
theorem g_aast (C : Cx p s m args c g A cc nL Ts own) {a N vr : Nat} {f : Nat → Option Nat} {vs : List Value} (q0 qk : Nat) (ha : ws[q0]? = some (a, .inl (g.2.1 2, N, .inr (.inr (.inr (.inr f)))))) (hv : ws[qk]? = some (vr, .inr (0, vs))) {i : Int32} (hi : vp_in i N) (hd : decode cc pc = .ok (.aastore, 1)) (ws1 : va_W) (hw : ws.set q0 (a, .inl (g.2.1 2, N, .inr (.inr (.inr (.inr (va_up f i.toNatClampNeg (some vr))))))) = ws1) (n : Nat) (hn : pc + 1 = n) (kk : Gm p l e R s m args below meth c Q g A nL cells slots ws1 lv (st) n) : Gm p l e R s m args below meth c Q g A nL cells slots ws lv (.ref vr :: .int i :: .ref a :: st) pc := by
  subst hn
  subst hw
  exact fun H locs ls hP hD hS hl => va_astq C.1.1 C.1.2.1 C.2.2.1 hP hD hS q0 2 qk 0 (r := (RX0, TX0, 4)) ha rfl hv rfl hi hd (fun H1 locs1 hP1 hD1 hS1 => kk H1 locs1 ls hP1 hD1 hS1 hl)
theorem g_alen (C : Cx p s m args c g A cc nL Ts own) {a : Nat} {x : vp_A} {cA : ClassId} {ty : FieldType} (q0 t0 : Nat) (ha : ws[q0]? = some (a, .inl (cA, x))) (ht : (gT g)[t0]? = some (cA, ty)) (v : Int32) (hv : Int32.ofNat x.1 = v) (hd : decode cc pc = .ok (.arraylength, 1)) (n : Nat) (hn : pc + 1 = n) (kk : Gm p l e R s m args below meth c Q g A nL cells slots ws lv (.int v :: st) n) : Gm p l e R s m args below meth c Q g A nL cells slots ws lv (.ref a :: st) pc := by
  subst hn
  exact fun H locs ls hP hD hS hl => va_alen C.1.1 C.1.2.1 C.2.2.1 hP q0 t0 ha ht hv hd (kk H locs ls hP hD hS hl)
theorem g_min (C : Cx p s m args c g A cc nL Ts own) {x y : Int32} {ix : Nat} (hlink : (Cond.methodLink own ix Lib.Math.min.name) ∈ Ts) (hstat : (Cond.static Lib.Math.min.name) ∈ Ts) (hini : (Cond.initialized "java/lang/Math") ∈ Ts) (hcode : (Cond.code Lib.Math.min.name Lib.Math.min.code 2 (some .int)) ∈ Ts) (hfr : 1 ≤ R.frames) (hlo : (st.map fun v => v.category).sum + 13 ≤ R.locals) (hcs : cells ≤ R.cells ∧ slots ≤ R.slots) (hd : decode cc pc = .ok (.invokestatic ix, 3)) (n : Nat) (hn : pc + 3 = n) (kk : Gm p l e R s m args below meth c Q g A nL cells slots ws lv (.int (if y < x then y else x) :: st) n) : Gm p l e R s m args below meth c Q g A nL cells slots ws lv (.int y :: .int x :: st) pc := by
  subst hn
  exact fun H locs ls hP hD hS hl => va_mmin C.1.1 C.1.2.1 (C.1.2.2.1.trans hl.1.symm) C.1.2.2.2.1 (C.1.2.2.2.2 _ hlink) (C.1.2.2.2.2 _ hstat) (C.1.2.2.2.2 _ hini) (C.1.2.2.2.2 _ hcode) hfr hlo hcs.1 hcs.2 hd (kk H locs ls hP hD hS hl)
theorem g_max (C : Cx p s m args c g A cc nL Ts own) {x y : Int32} {ix : Nat} (hlink : (Cond.methodLink own ix Lib.Math.max.name) ∈ Ts) (hstat : (Cond.static Lib.Math.max.name) ∈ Ts) (hini : (Cond.initialized "java/lang/Math") ∈ Ts) (hcode : (Cond.code Lib.Math.max.name Lib.Math.max.code 2 (some .int)) ∈ Ts) (hfr : 1 ≤ R.frames) (hlo : (st.map fun v => v.category).sum + 13 ≤ R.locals) (hcs : cells ≤ R.cells ∧ slots ≤ R.slots) (hd : decode cc pc = .ok (.invokestatic ix, 3)) (n : Nat) (hn : pc + 3 = n) (kk : Gm p l e R s m args below meth c Q g A nL cells slots ws lv (.int (if x < y then y else x) :: st) n) : Gm p l e R s m args below meth c Q g A nL cells slots ws lv (.int y :: .int x :: st) pc := by
  subst hn
  exact fun H locs ls hP hD hS hl => va_mmax C.1.1 C.1.2.1 (C.1.2.2.1.trans hl.1.symm) C.1.2.2.2.1 (C.1.2.2.2.2 _ hlink) (C.1.2.2.2.2 _ hstat) (C.1.2.2.2.2 _ hini) (C.1.2.2.2.2 _ hcode) hfr hlo hcs.1 hcs.2 hd (kk H locs ls hP hD hS hl)
theorem g_abs (C : Cx p s m args c g A cc nL Ts own) {x : Int32} {ix : Nat} (hlink : (Cond.methodLink own ix Lib.Math.abs.name) ∈ Ts) (hstat : (Cond.static Lib.Math.abs.name) ∈ Ts) (hini : (Cond.initialized "java/lang/Math") ∈ Ts) (hcode : (Cond.code Lib.Math.abs.name Lib.Math.abs.code 1 (some .int)) ∈ Ts) (hfr : 1 ≤ R.frames) (hlo : (st.map fun v => v.category).sum + 13 ≤ R.locals) (hcs : cells ≤ R.cells ∧ slots ≤ R.slots) (hd : decode cc pc = .ok (.invokestatic ix, 3)) (n : Nat) (hn : pc + 3 = n) (kk : Gm p l e R s m args below meth c Q g A nL cells slots ws lv (.int (if 0 ≤ x then x else 0 - x) :: st) n) : Gm p l e R s m args below meth c Q g A nL cells slots ws lv (.int x :: st) pc := by
  subst hn
  exact fun H locs ls hP hD hS hl => va_mabs C.1.1 C.1.2.1 (C.1.2.2.1.trans hl.1.symm) C.1.2.2.2.1 (C.1.2.2.2.2 _ hlink) (C.1.2.2.2.2 _ hstat) (C.1.2.2.2.2 _ hini) (C.1.2.2.2.2 _ hcode) hfr hlo hcs.1 hcs.2 hd (kk H locs ls hP hD hS hl)
theorem g_maxL (C : Cx p s m args c g A cc nL Ts own) {x y : Int64} {ix : Nat} (hlink : (Cond.methodLink own ix Lib.MathLoose.max_long.x) ∈ Ts) (hstat : (Cond.static Lib.MathLoose.max_long.x) ∈ Ts) (hini : (Cond.initialized "java/lang/Math") ∈ Ts) (hcode : (Cond.code Lib.MathLoose.max_long.x Lib.MathLoose.max_long.code 4 (some .long)) ∈ Ts) (hfr : 1 ≤ R.frames) (hlo : (st.map fun v => v.category).sum + 15 ≤ R.locals) (hcs : cells ≤ R.cells ∧ slots ≤ R.slots) (hd : decode cc pc = .ok (.invokestatic ix, 3)) (n : Nat) (hn : pc + 3 = n) (kk : Gm p l e R s m args below meth c Q g A nL cells slots ws lv (.long (if y < x then x else y) :: st) n) : Gm p l e R s m args below meth c Q g A nL cells slots ws lv (.long y :: .long x :: st) pc := by
  subst hn
  exact fun H locs ls hP hD hS hl => va_mmax_long C.1.1 C.1.2.1 (C.1.2.2.1.trans hl.1.symm) C.1.2.2.2.1 (C.1.2.2.2.2 _ hlink) (C.1.2.2.2.2 _ hstat) (C.1.2.2.2.2 _ hini) (C.1.2.2.2.2 _ hcode) hfr hlo hcs.1 hcs.2 hd (kk H locs ls hP hD hS hl)
theorem g_absL (C : Cx p s m args c g A cc nL Ts own) {x : Int64} {ix : Nat} (hlink : (Cond.methodLink own ix Lib.MathLoose.abs_long.x) ∈ Ts) (hstat : (Cond.static Lib.MathLoose.abs_long.x) ∈ Ts) (hini : (Cond.initialized "java/lang/Math") ∈ Ts) (hcode : (Cond.code Lib.MathLoose.abs_long.x Lib.MathLoose.abs_long.code 2 (some .long)) ∈ Ts) (hfr : 1 ≤ R.frames) (hlo : (st.map fun v => v.category).sum + 13 ≤ R.locals) (hcs : cells ≤ R.cells ∧ slots ≤ R.slots) (hd : decode cc pc = .ok (.invokestatic ix, 3)) (n : Nat) (hn : pc + 3 = n) (kk : Gm p l e R s m args below meth c Q g A nL cells slots ws lv (.long (if 0 < x then x else -x) :: st) n) : Gm p l e R s m args below meth c Q g A nL cells slots ws lv (.long x :: st) pc := by
  subst hn
  exact fun H locs ls hP hD hS hl => va_mabs_long C.1.1 C.1.2.1 (C.1.2.2.1.trans hl.1.symm) C.1.2.2.2.1 (C.1.2.2.2.2 _ hlink) (C.1.2.2.2.2 _ hstat) (C.1.2.2.2.2 _ hini) (C.1.2.2.2.2 _ hcode) hfr hlo hcs.1 hcs.2 hd (kk H locs ls hP hD hS hl)
theorem fPc_at (C : Cx p s m args c g A cc nL Ts own) {H : Heap} {locs : List Loc} (hP : va_P g.1 vwCl ws H) (hD : va_D A ws) (hS : va_S A s.heap H locs) {wc : va_W} {ks : List Nat} (hC : ks.map (fun i => ws[i]?) = wc.map some) (hn : va_nd ks = true) (As : List Value) : ∀ U : State, U.heap = H → s.WarmedH U.vm → fPc g As wc H.size As.toArray U := fun U hU hW =>
  ⟨rfl, by rw [hU], by rw [hU]; exact fun k q hq => by obtain ⟨i, -, hi⟩ := pickAt hC hq; exact hP i q hi, va_K.moved hW.alike C.2.2.1, (hD.sub ks hn hC).weaken (fun _ _ _ _ => trivial), by rw [hU]; exact C.2.2.2.warm (va_free hD hS C.2.1 ks hC) (fun a h1 h2 => hS.2.1 a h1 h2) hW⟩
def rnR (p : Program) (l : Launch) (e : Env) (R : Room) (s : State) (m : MethodId) (args : Array Value) (below : List Frame) (meth : Method) (c : Code) (g : gE) (A : Nat → Prop) (nL cells slots : Nat) (ws : va_W) (wc : va_W) (lv : List (Option Value)) (st0 st : List Value) (pc : Nat) (ks : List Nat) (As : List Value) (Qc : Nat → Array Value → State → Outcome → State → Prop) : Prop :=
  ks.map (fun i => ws[i]?) = wc.map some ∧ va_nd ks = true ∧ ∀ (H : Heap) (locs : List Loc) (ls : Array Slot), va_P g.1 vwCl ws H → va_D A ws → va_S A s.heap H locs → lvH ls nL lv → va_Run p l e R s m args below meth c H locs cells slots 0 0 (F0 m pc ls st0) st (Qc H.size As.toArray) (va_A wc H.size)
theorem rn_V (C : Cx p s m args c g A cc nL Ts own) {Cn : String} {b ci : Nat} {fs : List Value} {T : u_T} {N : Nat} {y : MethodName} {bytes : ByteArray} {maxL n ix : Nat} {ret : Option FieldType} {wsY : List Cond} {rm : Room} {wc : va_W} {Qc : Nat → Array Value → State → Outcome → State → Prop} {As : List Value} {st0 : List Value} (hM : ∀ sz, Met l y wsY rm (fPc g (.ref b :: As) wc sz) (Qc sz) 0 0 (va_A wc sz)) (cw : CallW R s args own Cn ix y bytes maxL ret wsY rm 0 0 n) (q0 : Nat) (he : ws[q0]? = some (b, .inr (ci, fs))) (hc : vwCl[ci]? = some (Cn, T, N)) (ks : List Nat) (hC : ks.map (fun i => ws[i]?) = wc.map some) (hn : va_nd ks = true) (hnn : As.length = n) (hst : st0 = As.reverse ++ .ref b :: st) (hroom : (st.map fun v => v.category).sum ≤ 8) (hcs : cells ≤ R.cells ∧ slots ≤ R.slots) (hd : decode cc pc = .ok (.invokevirtual ix, 3)) : rnR p l e R s m args below meth c g A nL cells slots ws wc lv st0 st pc ks (.ref b :: As) Qc :=
  ⟨hC, hn, fun H locs ls hP hD hS hl => va_runV C.1 (hM H.size) cw ⟨fPc_blind, va_recv C.2.2.1 hP hc he, fPc_at C hP hD hS hC hn _⟩ rfl hnn hl.1 hst (lv_room hroom) hd hcs⟩
theorem rn_VN (C : Cx p s m args c g A cc nL Ts own) {Cn host : String} {b ci : Nat} {fs : List Value} {T : u_T} {N : Nat} {y : MethodName} {bytes : ByteArray} {maxL n ix : Nat} {ret : Option FieldType} {wsY : List Cond} {rm : Room} {wc : va_W} {Qc : Nat → Array Value → State → Outcome → State → Prop} {As : List Value} {st0 : List Value} (hM : ∀ sz, Met l y wsY rm (fPc g (.ref b :: As) wc sz) (Qc sz) 0 0 (va_A wc sz)) (cw : va_CN R s args own ix y host bytes maxL ret wsY rm 0 0 n ∧ (Cond.instanceMethod y).before args s = true ∧ (Cond.selects Cn y y).before args s = true) (q0 : Nat) (he : ws[q0]? = some (b, .inr (ci, fs))) (hc : vwCl[ci]? = some (Cn, T, N)) (ks : List Nat) (hC : ks.map (fun i => ws[i]?) = wc.map some) (hn : va_nd ks = true) (hnn : As.length = n) (hst : st0 = As.reverse ++ .ref b :: st) (hroom : (st.map fun v => v.category).sum ≤ 8) (hcs : cells ≤ R.cells ∧ slots ≤ R.slots) (hd : decode cc pc = .ok (.invokevirtual ix, 3)) : rnR p l e R s m args below meth c g A nL cells slots ws wc lv st0 st pc ks (.ref b :: As) Qc :=
  ⟨hC, hn, fun H locs ls hP hD hS hl => va_runVN C.1 (hM H.size) cw ⟨fPc_blind, va_recv C.2.2.1 hP hc he, fPc_at C hP hD hS hC hn _⟩ rfl hnn hl.1 hst (lv_room hroom) hd hcs⟩
theorem rn_S (C : Cx p s m args c g A cc nL Ts own) {y : MethodName} {bytes : ByteArray} {maxL n ix : Nat} {ret : Option FieldType} {wsY : List Cond} {rm : Room} {wc : va_W} {Qc : Nat → Array Value → State → Outcome → State → Prop} {As : List Value} {st0 : List Value} (hM : ∀ sz, Met l y wsY rm (fPc g As wc sz) (Qc sz) 0 0 (va_A wc sz)) (cw : CallB R s args own ix y bytes maxL ret wsY rm 0 0 n ∧ (Cond.static y).before args s = true) (ks : List Nat) (hC : ks.map (fun i => ws[i]?) = wc.map some) (hn : va_nd ks = true) (hnn : As.length = n) (hst : st0 = As.reverse ++ st) (hroom : (st.map fun v => v.category).sum ≤ 8) (hcs : cells ≤ R.cells ∧ slots ≤ R.slots) (hd : decode cc pc = .ok (.invokestatic ix, 3)) : rnR p l e R s m args below meth c g A nL cells slots ws wc lv st0 st pc ks (As) Qc :=
  ⟨hC, hn, fun H locs ls hP hD hS hl => va_runS C.1 (hM H.size) cw ⟨fPc_blind, fPc_at C hP hD hS hC hn _⟩ rfl hnn hl.1 hst (lv_room hroom) hd hcs⟩
theorem rn_SN (C : Cx p s m args c g A cc nL Ts own) {host : String} {y : MethodName} {bytes : ByteArray} {maxL n ix : Nat} {ret : Option FieldType} {wsY : List Cond} {rm : Room} {wc : va_W} {Qc : Nat → Array Value → State → Outcome → State → Prop} {As : List Value} {st0 : List Value} (hM : ∀ sz, Met l y wsY rm (fPc g As wc sz) (Qc sz) 0 0 (va_A wc sz)) (cw : va_CN R s args own ix y host bytes maxL ret wsY rm 0 0 n ∧ (Cond.static y).before args s = true ∧ True) (ks : List Nat) (hC : ks.map (fun i => ws[i]?) = wc.map some) (hn : va_nd ks = true) (hnn : As.length = n) (hst : st0 = As.reverse ++ st) (hroom : (st.map fun v => v.category).sum ≤ 8) (hcs : cells ≤ R.cells ∧ slots ≤ R.slots) (hd : decode cc pc = .ok (.invokestatic ix, 3)) : rnR p l e R s m args below meth c g A nL cells slots ws wc lv st0 st pc ks (As) Qc :=
  ⟨hC, hn, fun H locs ls hP hD hS hl => va_runSN C.1 (hM H.size) cw ⟨fPc_blind, fPc_at C hP hD hS hC hn _⟩ rfl hnn hl.1 hst (lv_room hroom) hd hcs⟩
theorem rn_I (C : Cx p s m args c g A cc nL Ts own) {b : Nat} {y : MethodName} {bytes : ByteArray} {maxL n ix : Nat} {wsY : List Cond} {rm : Room} {wc : va_W} {Qc : Nat → Array Value → State → Outcome → State → Prop} {As : List Value} {st0 : List Value} (hM : ∀ sz, Met l y wsY rm (fPc g (.ref b :: As) wc sz) (Qc sz) 0 0 (va_A wc sz)) (cw : CallB R s args own ix y bytes maxL none wsY rm 0 0 n ∧ y.name = "<init>" ∧ (Cond.instanceMethod y).before args s = true) (ks : List Nat) (hC : ks.map (fun i => ws[i]?) = wc.map some) (hn : va_nd ks = true) (hnn : As.length = n) (hst : st0 = As.reverse ++ .ref b :: st) (hroom : (st.map fun v => v.category).sum ≤ 8) (hcs : cells ≤ R.cells ∧ slots ≤ R.slots) (hd : decode cc pc = .ok (.invokespecial ix, 3)) : rnR p l e R s m args below meth c g A nL cells slots ws wc lv st0 st pc ks (.ref b :: As) Qc :=
  ⟨hC, hn, fun H locs ls hP hD hS hl => va_runI C.1 (hM H.size) cw ⟨fPc_blind, fPc_at C hP hD hS hC hn _⟩ rfl hnn hl.1 hst (lv_room hroom) hd hcs⟩
theorem rn_IN (C : Cx p s m args c g A cc nL Ts own) {host : String} {b : Nat} {y : MethodName} {bytes : ByteArray} {maxL n ix : Nat} {wsY : List Cond} {rm : Room} {wc : va_W} {Qc : Nat → Array Value → State → Outcome → State → Prop} {As : List Value} {st0 : List Value} (hM : ∀ sz, Met l y wsY rm (fPc g (.ref b :: As) wc sz) (Qc sz) 0 0 (va_A wc sz)) (cw : va_CN R s args own ix y host bytes maxL none wsY rm 0 0 n ∧ y.name = "<init>" ∧ (Cond.instanceMethod y).before args s = true) (ks : List Nat) (hC : ks.map (fun i => ws[i]?) = wc.map some) (hn : va_nd ks = true) (hnn : As.length = n) (hst : st0 = As.reverse ++ .ref b :: st) (hroom : (st.map fun v => v.category).sum ≤ 8) (hcs : cells ≤ R.cells ∧ slots ≤ R.slots) (hd : decode cc pc = .ok (.invokespecial ix, 3)) : rnR p l e R s m args below meth c g A nL cells slots ws wc lv st0 st pc ks (.ref b :: As) Qc :=
  ⟨hC, hn, fun H locs ls hP hD hS hl => va_runIN C.1 (hM H.size) cw ⟨fPc_blind, fPc_at C hP hD hS hC hn _⟩ rfl hnn hl.1 hst (lv_room hroom) hd hcs⟩
theorem g_callI (C : Cx p s m args c g A cc nL Ts own) {r : Int32} {wc w1 : va_W} {st0 As : List Value} {ks : List Nat} (hr : rnR p l e R s m args below meth c g A nL cells slots ws wc lv st0 st pc ks As (qI g wc r w1)) (ws1 : va_W) (hw1 : wPut ws ks w1 = ws1) (hlen : ks.length = w1.length) (n : Nat) (hn : pc + 3 = n) (kk : Gm p l e R s m args below meth c Q g A nL cells slots ws1 lv (.int r :: st) n) : Gm p l e R s m args below meth c Q g A nL cells slots ws lv st0 pc := by
  subst hn
  subst hw1
  intro H locs ls hP hD hS hl
  have hF := va_free hD hS C.2.1 ks hr.1
  exact va_calli (hr.2.2 H locs ls hP hD hS hl) hS (fun q _ h => hF q h) hF (fun r1 _ t H1 locs1 ht hvm hw hB hz1 hk1 hS1 => by
    subst hw
    obtain ⟨hP1, hK1, hD1⟩ := hB
    rw [ht] at hP1
    obtain ⟨hP2, hD2⟩ := wPut_join hP hD ks hr.1 hr.2.1 hlen hk1 hF hP1 hD1
    exact kk H1 locs1 ls hP2 hD2 hS1 hl)
theorem g_callL (C : Cx p s m args c g A cc nL Ts own) {r : Int64} {wc w1 : va_W} {st0 As : List Value} {ks : List Nat} (hr : rnR p l e R s m args below meth c g A nL cells slots ws wc lv st0 st pc ks As (qL g wc r w1)) (ws1 : va_W) (hw1 : wPut ws ks w1 = ws1) (hlen : ks.length = w1.length) (n : Nat) (hn : pc + 3 = n) (kk : Gm p l e R s m args below meth c Q g A nL cells slots ws1 lv (.long r :: st) n) : Gm p l e R s m args below meth c Q g A nL cells slots ws lv st0 pc := by
  subst hn
  subst hw1
  intro H locs ls hP hD hS hl
  have hF := va_free hD hS C.2.1 ks hr.1
  exact va_calll (hr.2.2 H locs ls hP hD hS hl) hS (fun q _ h => hF q h) hF (fun r1 _ t H1 locs1 ht hvm hw hB hz1 hk1 hS1 => by
    subst hw
    obtain ⟨hP1, hK1, hD1⟩ := hB
    rw [ht] at hP1
    obtain ⟨hP2, hD2⟩ := wPut_join hP hD ks hr.1 hr.2.1 hlen hk1 hF hP1 hD1
    exact kk H1 locs1 ls hP2 hD2 hS1 hl)
theorem g_callV (C : Cx p s m args c g A cc nL Ts own)  {wc w1 : va_W} {st0 As : List Value} {ks : List Nat} (hr : rnR p l e R s m args below meth c g A nL cells slots ws wc lv st0 st pc ks As (qV g wc w1)) (ws1 : va_W) (hw1 : wPut ws ks w1 = ws1) (hlen : ks.length = w1.length) (n : Nat) (hn : pc + 3 = n) (kk : Gm p l e R s m args below meth c Q g A nL cells slots ws1 lv (st) n) : Gm p l e R s m args below meth c Q g A nL cells slots ws lv st0 pc := by
  subst hn
  subst hw1
  intro H locs ls hP hD hS hl
  have hF := va_free hD hS C.2.1 ks hr.1
  exact va_callv (hr.2.2 H locs ls hP hD hS hl) hS (fun q _ h => hF q h) hF (fun _ t H1 locs1 ht hvm hw hB hz1 hk1 hS1 => by
    obtain ⟨hP1, hK1, hD1⟩ := hB
    rw [ht] at hP1
    obtain ⟨hP2, hD2⟩ := wPut_join hP hD ks hr.1 hr.2.1 hlen hk1 hF hP1 hD1
    exact kk H1 locs1 ls hP2 hD2 hS1 hl)
theorem g_callQ (C : Cx p s m args c g A cc nL Ts own) {cnd : Prop} [Decidable cnd] {a : Nat} {wc w1 : va_W} {st0 As : List Value} {ks : List Nat} (hr : rnR p l e R s m args below meth c g A nL cells slots ws wc lv st0 st pc ks As (qQ g wc (if cnd then some a else none) w1)) (ws1 : va_W) (hw1 : wPut ws ks w1 = ws1) (hlen : ks.length = w1.length) {α : Type} {aT aF aR : α} (hR : (if cnd then aT else aF) = aR) (n : Nat) (hn : pc + 3 = n) (kt : cnd → aT = aR → Gm p l e R s m args below meth c Q g A nL cells slots ws1 lv (.ref a :: st) n) (kf : ¬ cnd → aF = aR → Gm p l e R s m args below meth c Q g A nL cells slots ws1 lv (.null :: st) n) : Gm p l e R s m args below meth c Q g A nL cells slots ws lv st0 pc := by
  subst hn
  subst hw1
  intro H locs ls hP hD hS hl
  have hF := va_free hD hS C.2.1 ks hr.1
  refine va_callq (hr.2.2 H locs ls hP hD hS hl) hS (fun q _ h => hF q h) hF (fun r1 _ t H1 locs1 ht hvm hw hB hz1 hk1 hS1 => ?_)
  subst hw
  obtain ⟨hP1, hK1, hD1⟩ := hB
  rw [ht] at hP1
  obtain ⟨hP2, hD2⟩ := wPut_join hP hD ks hr.1 hr.2.1 hlen hk1 hF hP1 hD1
  by_cases c1 : cnd
  · rw [if_pos c1]
    exact kt c1 ((if_pos c1).symm.trans hR) H1 locs1 ls hP2 hD2 hS1 hl
  · rw [if_neg c1]
    exact kf c1 ((if_neg c1).symm.trans hR) H1 locs1 ls hP2 hD2 hS1 hl
theorem wPut_id : ∀ (ks : List Nat) (wc ws : va_W), ks.map (fun i => ws[i]?) = wc.map some → wPut ws ks wc = ws
  | [], _, _, _ => by simp [wPut]
  | _ :: _, [], _, h => by simp at h
  | k :: ks, q :: wc, ws, h => by
    simp only [List.map_cons, List.cons.injEq] at h
    have hk : ws.set k q = ws := by
      have hl := (List.getElem?_eq_some_iff.mp h.1)
      obtain ⟨h1, h2⟩ := hl
      rw [← h2]
      exact List.set_getElem_self h1
    rw [wPut, hk]
    exact wPut_id ks wc ws h.2
theorem g_callIR (C : Cx p s m args c g A cc nL Ts own) {r : Int32} {wc : va_W} {st0 As : List Value} {ks : List Nat} (hr : rnR p l e R s m args below meth c g A nL cells slots ws wc lv st0 st pc ks As (qI g wc r wc)) (n : Nat) (hn : pc + 3 = n) (kk : Gm p l e R s m args below meth c Q g A nL cells slots ws lv (.int r :: st) n) : Gm p l e R s m args below meth c Q g A nL cells slots ws lv st0 pc :=
  g_callI C hr ws (wPut_id ks wc ws hr.1) (by simpa using congrArg List.length hr.1) n hn kk
theorem g_callLR (C : Cx p s m args c g A cc nL Ts own) {r : Int64} {wc : va_W} {st0 As : List Value} {ks : List Nat} (hr : rnR p l e R s m args below meth c g A nL cells slots ws wc lv st0 st pc ks As (qL g wc r wc)) (n : Nat) (hn : pc + 3 = n) (kk : Gm p l e R s m args below meth c Q g A nL cells slots ws lv (.long r :: st) n) : Gm p l e R s m args below meth c Q g A nL cells slots ws lv st0 pc :=
  g_callL C hr ws (wPut_id ks wc ws hr.1) (by simpa using congrArg List.length hr.1) n hn kk
theorem g_callVR (C : Cx p s m args c g A cc nL Ts own)  {wc : va_W} {st0 As : List Value} {ks : List Nat} (hr : rnR p l e R s m args below meth c g A nL cells slots ws wc lv st0 st pc ks As (qV g wc wc)) (n : Nat) (hn : pc + 3 = n) (kk : Gm p l e R s m args below meth c Q g A nL cells slots ws lv (st) n) : Gm p l e R s m args below meth c Q g A nL cells slots ws lv st0 pc :=
  g_callV C hr ws (wPut_id ks wc ws hr.1) (by simpa using congrArg List.length hr.1) n hn kk
theorem g_callQR (C : Cx p s m args c g A cc nL Ts own) {cnd : Prop} [Decidable cnd] {a : Nat} {wc : va_W} {st0 As : List Value} {ks : List Nat} (hr : rnR p l e R s m args below meth c g A nL cells slots ws wc lv st0 st pc ks As (qQ g wc (if cnd then some a else none) wc)) {α : Type} {aT aF aR : α} (hR : (if cnd then aT else aF) = aR) (n : Nat) (hn : pc + 3 = n) (kt : cnd → aT = aR → Gm p l e R s m args below meth c Q g A nL cells slots ws lv (.ref a :: st) n) (kf : ¬ cnd → aF = aR → Gm p l e R s m args below meth c Q g A nL cells slots ws lv (.null :: st) n) : Gm p l e R s m args below meth c Q g A nL cells slots ws lv st0 pc :=
  g_callQ C hr ws (wPut_id ks wc ws hr.1) (by simpa using congrArg List.length hr.1) hR n hn kt kf
theorem g_objInit (C : Cx p s m args c g A cc nL Ts own) {ix b : Nat} (h1 : (Cond.methodLink own ix objectInit) ∈ Ts) (h2 : (Cond.instanceMethod objectInit) ∈ Ts) (h3 : (Cond.code objectInit ⟨#[0xb1]⟩ 1 none) ∈ Ts) (hd : decode cc pc = .ok (.invokespecial ix, 3)) (n : Nat) (hn : pc + 3 = n) (hfr : 1 ≤ R.frames) (hlo : 12 ≤ R.locals) (kk : Gm p l e R s m args below meth c Q g A nL cells slots ws lv ([]) n) : Gm p l e R s m args below meth c Q g A nL cells slots ws lv ([.ref b]) pc := by
  subst hn
  intro H locs ls hP hD hS hl
  refine W.objInit C.1.1 C.1.2.1 C.1.2.2.2.1 (C.1.2.2.2.2 _ h1) (C.1.2.2.2.2 _ h2) (C.1.2.2.2.2 _ h3) rfl (by rw [C.1.2.2.1]; exact hl.1) rfl hd ?_ ?_ ?_
  · exact hfr
  · exact hlo
  · exact kk H locs ls hP hD hS hl
theorem g_look (C : Cx p s m args c g A cc nL Ts own) {dflt : Int} {ps : Array (Int × Int)} {len : Nat} {x : Int32} (hd : decode cc pc = .ok (.lookupswitch dflt ps, len)) (v : Int32) (hv : x = v) (off : Int) (n : Nat) (hp : ((ps.toList.zip (ps.toList.drop 1)).all (fun (a, next) => a.1 < next.1)) = true) (h : (decide (Op.lookupswitch.offset ps.toList dflt v.toInt = off) && decide ((pc : Int) + off = (n : Int))) = true) (kk : Gm p l e R s m args below meth c Q g A nL cells slots ws lv (st) n) : Gm p l e R s m args below meth c Q g A nL cells slots ws lv (.int x :: st) pc := by
  subst hv
  simp only [Bool.and_eq_true, decide_eq_true_eq] at h
  exact fun H locs ls hP hD hS hl => lv_lookup C.1.1 C.1.2.1 hd hp h.1 h.2 (kk H locs ls hP hD hS hl)
theorem g_lookD (C : Cx p s m args c g A cc nL Ts own) {dflt : Int} {ps : Array (Int × Int)} {len : Nat} {x : Int32} (hd : decode cc pc = .ok (.lookupswitch dflt ps, len)) (n : Nat) (hp : ((ps.toList.zip (ps.toList.drop 1)).all (fun (a, next) => a.1 < next.1)) = true) (h : Op.lookupswitch.offset ps.toList dflt x.toInt = dflt) (ht : (pc : Int) + dflt = (n : Int)) (kk : Gm p l e R s m args below meth c Q g A nL cells slots ws lv (st) n) : Gm p l e R s m args below meth c Q g A nL cells slots ws lv (.int x :: st) pc := fun H locs ls hP hD hS hl => lv_lookup C.1.1 C.1.2.1 hd hp h ht (kk H locs ls hP hD hS hl)
theorem g_iret (C : Cx p s m args c g A cc nL Ts own) {wc w1 : va_W} {r v : Int32} (hr : meth.sig.returnType = some .int) (hlocks : meth.locks = false)  (hA : va_A wc s.heap.size = A) (hv : v = r) (hw : ws = w1) (hd : decode cc pc = .ok (.ireturn, 1)) : Gm p l e R s m args below meth c (MQ below (qI g wc r w1 s.heap.size) args s 0 0 A) g A nL 0 0 ws lv ([.int v]) pc := by
  subst hv
  subst hw
  subst hA
  exact fun H locs ls hP hD hS hl => W.iret C.1.1 C.1.2.1 hr (fun t ht hW => ⟨⟨v, (), rfl, rfl, by rw [ht]; exact hP, va_K.moved hW.alike C.2.2.1, hD⟩, hS.F ht⟩) hS.2.2 hd hlocks
theorem g_zret (C : Cx p s m args c g A cc nL Ts own) {wc w1 : va_W} {r v : Int32} (hr : meth.sig.returnType = some .boolean) (hlocks : meth.locks = false) (hnar : narrow .boolean (.int v) = .int v) (hA : va_A wc s.heap.size = A) (hv : v = r) (hw : ws = w1) (hd : decode cc pc = .ok (.ireturn, 1)) : Gm p l e R s m args below meth c (MQ below (qI g wc r w1 s.heap.size) args s 0 0 A) g A nL 0 0 ws lv ([.int v]) pc := by
  subst hv
  subst hw
  subst hA
  exact fun H locs ls hP hD hS hl => W.zret C.1.1 C.1.2.1 hr hnar (fun t ht hW => ⟨⟨v, (), rfl, rfl, by rw [ht]; exact hP, va_K.moved hW.alike C.2.2.1, hD⟩, hS.F ht⟩) hS.2.2 hd hlocks
theorem g_lret (C : Cx p s m args c g A cc nL Ts own) {wc w1 : va_W} {r v : Int64} (hr : meth.sig.returnType = some .long) (hlocks : meth.locks = false)  (hA : va_A wc s.heap.size = A) (hv : v = r) (hw : ws = w1) (hd : decode cc pc = .ok (.lreturn, 1)) : Gm p l e R s m args below meth c (MQ below (qL g wc r w1 s.heap.size) args s 0 0 A) g A nL 0 0 ws lv ([.long v]) pc := by
  subst hv
  subst hw
  subst hA
  exact fun H locs ls hP hD hS hl => W.lret C.1.1 C.1.2.1 hr (fun t ht hW => ⟨⟨v, (), rfl, rfl, by rw [ht]; exact hP, va_K.moved hW.alike C.2.2.1, hD⟩, hS.F ht⟩) hS.2.2 hd hlocks
theorem g_vret (C : Cx p s m args c g A cc nL Ts own) {wc w1 : va_W} (hr : meth.sig.returnType = none) (hlocks : meth.locks = false) (hA : va_A wc s.heap.size = A) (hw : ws = w1) (hd : decode cc pc = .ok (.return_, 1)) : Gm p l e R s m args below meth c (MQ below (qV g wc w1 s.heap.size) args s 0 0 A) g A nL 0 0 ws lv ([]) pc := by
  subst hw
  subst hA
  exact fun H locs ls hP hD hS hl => W.vret C.1.1 C.1.2.1 hr (fun t ht hW => ⟨⟨(), rfl, trivial, by rw [ht]; exact hP, va_K.moved hW.alike C.2.2.1, hD⟩, hS.F ht⟩) hS.2.2 hd hlocks
theorem g_aret (C : Cx p s m args c g A cc nL Ts own) {wc w1 : va_W} {r : Option Nat} {rt : FieldType} {v : Value} (hr : meth.sig.returnType = some rt) (hrt : (∃ n, rt = .object n) ∨ ∃ t, rt = .array t) (hlocks : meth.locks = false) (hA : va_A wc s.heap.size = A) (hv : v = va_rf r) (hw : ws = w1) (hd : decode cc pc = .ok (.areturn, 1)) : Gm p l e R s m args below meth c (MQ below (qQ g wc r w1 s.heap.size) args s 0 0 A) g A nL 0 0 ws lv ([v]) pc := by
  subst hv
  subst hw
  subst hA
  exact fun H locs ls hP hD hS hl => W.aret C.1.1 C.1.2.1 hr hrt (by cases r with
    | none => exact Or.inl rfl
    | some a => exact Or.inr ⟨a, rfl⟩) (fun t ht hW => ⟨⟨r, (), rfl, rfl, by rw [ht]; exact hP, va_K.moved hW.alike C.2.2.1, hD⟩, hS.F ht⟩) hS.2.2 hd hlocks
theorem fEntry {y : MethodName} {wsY ws' : List Cond} {rm : Room} {As : List Value} {wc : va_W} {maxL : Nat} {ret : Option FieldType} {Qc : Nat → Array Value → State → Outcome → State → Prop} (hy : plainName y.cls = true) (hw : wsY = Cond.code y cc maxL ret :: ws') (lv0 : List (Option Value)) (hlv : (lg_sl As).length ≤ maxL) (hm : ∀ (i : Nat) (v : Value), lv0[i]? = some (some v) → (i, v) ∈ lv_args 0 As)
    (body : ∀ (p : Program) (e : Env) (s : State) (m : MethodId) (below : List Frame) (meth : Method) (c : Code) (A : Nat → Prop), Cx p s m As.toArray c g A cc maxL wsY y.cls → meth.sig.returnType = ret → meth.locks = false → meth.name = y.name → va_A wc s.heap.size = A → Gm p l e (headSpec wsY rm).room s m As.toArray below meth c (MQ below (Qc s.heap.size) As.toArray s 0 0 A) g A maxL 0 0 wc lv0 [] 0) : ∀ sz, Met l y wsY rm (fPc g As wc sz) (Qc sz) 0 0 (va_A wc sz) := by
  intro sz
  refine Met.ofW (cc := cc) (maxL := maxL) (ret := ret) hy hw ?_
  intro p e s m args below meth c s₁ B hml hv
  obtain ⟨rfl, hsz, hP, hK, hD0, hX⟩ := hv
  subst hsz
  have hts := atoms_spec (ws := wsY) B.pre
  have hown : s.vm.findClass y.cls = some m.cls := findClass_of_methodNamed B.named
  have hD := hD0.self (sz := s.heap.size)
  rw [lg_entry_eq]
  exact body p e s m below meth c (va_A wc s.heap.size) ⟨⟨B.exec, B.bytes, hml, hown, hts⟩, fun q h => Or.inr h, hK, hX⟩ B.returns B.notSynchronized (name_of_methodNamed B.named B.method).1 rfl s.heap [] _ hP hD va_S.rf (lvH.of (lv_entry As hlv) hm)
theorem lvIn.nil {la : List (Nat × Value)} : ∀ (i : Nat) (v : Value), ([] : List (Option Value))[i]? = some (some v) → (i, v) ∈ la := fun i v h => by simp at h
def lvInB (lv : List (Option Value)) (k : Nat) (la : List (Nat × Value)) : Prop := ∀ (i : Nat) (v : Value), lv[i]? = some (some v) → (k + i, v) ∈ la
theorem lvInB.nil {k : Nat} {la : List (Nat × Value)} : lvInB [] k la := fun i v h => by simp at h
theorem lvInB.nn {k : Nat} {lv : List (Option Value)} {la : List (Nat × Value)} (h : lvInB lv (k + 1) la) : lvInB (none :: lv) k la := fun i v hi => by
  cases i with
  | zero => simp at hi
  | succ i => rw [show k + (i + 1) = k + 1 + i by omega]; exact h i v (by simpa using hi)
theorem lvInB.sm {k : Nat} {x : Value} {lv : List (Option Value)} {la : List (Nat × Value)} (h : lvInB lv (k + 1) la) : lvInB (some x :: lv) k ((k, x) :: la) := fun i v hi => by
  cases i with
  | zero => simp at hi; subst hi; exact List.mem_cons_self
  | succ i => rw [show k + (i + 1) = k + 1 + i by omega]; exact List.mem_cons_of_mem _ (h i v (by simpa using hi))
theorem lvInB.to {lv : List (Option Value)} {la : List (Nat × Value)} (h : lvInB lv 0 la) : ∀ (i : Nat) (v : Value), lv[i]? = some (some v) → (i, v) ∈ la := fun i v hi => by have := h i v hi; rwa [Nat.zero_add] at this
end
