/-! THE CLAIM OUT OF ONE WALK OF THE LAW'S BODY. Your part is whole_start (and what it stands on); all else here is the same for every law, but numbers. -/
def R_law : String := "StillGoodLaw"
def lw_P (b : Addr) (xs : List Int32) (args : Array Value) (s : State) : Prop := args = #[.ref b] ∧ s.IntsAt b xs ∧ xs.length ≤ 2560 ∧ (Jvm.Cond.and given_1 narrow_1).before args s = true
def lw_Q (_ : Array Value) (s : State) (o : Outcome) (t : State) : Prop := o = .returned (some (.int 1)) ∧ Framed s o t [] 600000 7302250
def lw_Z (below : List Frame) (a : Array Value) (s : State) : State → Prop := fun t => ∃ o, t.status = .running ∧ Ended t below o ∧ lw_Q a s o t
/-- the law's own end, with 1 on the stack, nothing written that was there before, its room as the claim has it -/
theorem lw_ret {p : Program} {l : Launch} {e : Env} {s : State} {m : MethodId} {below : List Frame} {meth : Method} {c : Code} {b : Nat} (hx : p.tables.exec = Jvm.exec) (hb : c.code = code) (hr : meth.sig.returnType = ret) (hlocks : meth.locks = false) {pc : Nat} {H : Heap} {ls : Array Slot} (hdg : decode code pc = .ok (.ireturn, 1)) : W p l e room_1 s m #[Value.ref b] below meth c H [] 600000 7302250 (lw_Z below #[Value.ref b] s) (F0 m pc ls [.int 1]) := by
  intro T hT X
  obtain ⟨fs, hret, hrun, hended, hW, hframe⟩ := X.leave (v := some (.int 1)) (hlocks := hlocks) (fun h => by rw [hr] at h; cases h)
  have hmeth' : T.vm.method? m = some meth := X.method'
  refine ⟨T.setFrames fs, ?_, .returned (some (.int 1)), hrun, hended, rfl, ⟨_, rfl⟩, hW, hframe⟩
  jvm_step X.here [X.here.top, hx, hb, hdg, hmeth', hr, ret, narrow_b1]
  (try refine ⟨rfl, ?_⟩); (try refine ⟨rfl, ?_⟩)
  first | (intro acts; rw [hret _ acts rfl rfl rfl]) | rw [hret _ _ rfl rfl rfl]
  exact Steps.refl _
/-- what holds at the law's entry: the machine, the code, the tables' words (any of lw_tbl by 'hts w (by decide +kernel)'), the script of L ints xs at the cell b, what the Statement gives of the start (any of its parts by flat_of_before) -/
def lw_At (p : Program) (s : State) (m : MethodId) (meth : Method) (c : Code) (b L : Nat) (xs : Nat → Int32) : Prop :=
  p.tables.exec = Jvm.exec ∧ c.code = code ∧ meth.sig.returnType = ret ∧ c.maxLocals = 4 ∧ s.vm.findClass R_law = some m.cls ∧ (∀ w ∈ lw_tbl, w.before #[Value.ref b] s = true) ∧ va_X b L xs s s.heap ∧ b < s.heap.size ∧ meth.locks = false ∧ (Jvm.Cond.and given_1 narrow_1).before #[Value.ref b] s = true
section
variable {p : Program} {l : Launch} {e : Env} {s : State} {m : MethodId} {below : List Frame} {meth : Method} {c : Code} {g : gE} {b L : Nat} {xs : Nat → Int32}
abbrev AL (s : State) : Nat → Prop := fun q => s.heap.size ≤ q
theorem law_end (C : Cx p s m #[Value.ref b] c g (AL s) cL_law 4 wsL_law RL) (hr : meth.sig.returnType = ret) (hlocks : meth.locks = false) {u d : Nat → Nat} {i : Nat} {y : Nat → Nat → Nat} {S M : ST} : LGo p l e s m #[Value.ref b] below meth c (lw_Z below #[Value.ref b] s) g (AL s) u d b i 1471 y S M := by
  unfold LGo
  refine g_iconst C dL_law_1471 1 rfl 1472 rfl ?_
  intro H locs ls hP hD hS hl
  refine va_forget hS.2.2 ?_
  refine W.widen (k := 600000) (n := 7302250) (Nat.le_of_ble_eq_true rfl) (Nat.le_of_ble_eq_true rfl) ?_
  exact lw_ret C.1.1 C.1.2.1 hr hlocks dL_law_1472
theorem law_back (C : Cx p s m #[Value.ref b] c g (AL s) cL_law 4 wsL_law RL) {Q : State → Prop} {u d : Nat → Nat} {i : Nat} {y : Nat → Nat → Nat} {S M : ST} (kk : LGo p l e s m #[Value.ref b] below meth c Q g (AL s) u d b (i + 5) 18 y S M) : LGo p l e s m #[Value.ref b] below meth c Q g (AL s) u d b i 1465 y S M := by
  unfold LGo at kk ⊢
  refine g_iinc C dL_law_1465 (x := Int32.ofNat i) rfl 5 rfl (LvL b (u 0) (d 0) (i + 5)) (by decide) rfl ?_ 1468 rfl ?_
  · unfold LvL
    rw [show Int32.ofNat (i + 5) = Int32.ofNat i + 5 from Int32.ofNat_add i 5]
    rfl
  · exact g_goto C dL_law_1468 18 rfl kk
theorem law_head (C : Cx p s m #[Value.ref b] c g (AL s) cL_law 4 wsL_law RL) (hX : va_X b L xs s s.heap) (hbl : b < s.heap.size) (hbA : ¬ AL s b) (hL : L ≤ 2560) {Q : State → Prop} {u d : Nat → Nat} {i : Nat} {y : Nat → Nat → Nat} {S M : ST} (hi : i ≤ 2565) (k1 : i + 5 ≤ L → LGo p l e s m #[Value.ref b] below meth c Q g (AL s) u d b i 26 y S M) (k2 : ¬ i + 5 ≤ L → LGo p l e s m #[Value.ref b] below meth c Q g (AL s) u d b i 1471 y S M) : LGo p l e s m #[Value.ref b] below meth c Q g (AL s) u d b i 18 y S M := by
  unfold LGo at k1 k2 ⊢
  refine g_iload_n C dL_law_18 (x := Int32.ofNat i) rfl 19 rfl ?_
  refine g_aload_n C dL_law_19 (x := b) rfl 20 rfl ?_
  refine g_slen C hX hbl hbA dL_law_20 21 rfl ?_
  refine g_iconst C dL_law_21 5 rfl 22 rfl ?_
  refine g_isub C dL_law_22 23 rfl ?_
  have hz : (Int32.ofNat L - 5 < Int32.ofNat i) ↔ ¬ i + 5 ≤ L := by
    by_cases h5 : 5 ≤ L
    · have e5 : Int32.ofNat L - 5 = Int32.ofNat (L - 5) := by
        have : Int32.ofNat (L - 5) + 5 = Int32.ofNat L := by
          rw [show (5 : Int32) = Int32.ofNat 5 from rfl, p_add, show L - 5 + 5 = L by omega]
        rw [← this]
        grind
      rw [e5, p_lt (by omega) (by omega)]
      omega
    · have h6 : L = 0 ∨ L = 1 ∨ L = 2 ∨ L = 3 ∨ L = 4 := by omega
      have hlow : Int32.ofNat L - 5 < 0 := by
        rcases h6 with rfl | rfl | rfl | rfl | rfl <;> decide
      have h0 : (0 : Int32) ≤ Int32.ofNat i := (p_le (a := 0) (by omega) (by omega)).mpr (Nat.zero_le _)
      constructor
      · intro _; omega
      · intro _
        grind
  by_cases h : i + 5 ≤ L
  · exact g_icmp_gtF C dL_law_23 (fun z => hz.mp z h) 1471 26 rfl rfl (k1 h)
  · exact g_icmp_gtT C dL_law_23 (hz.mpr h) 1471 rfl (k2 h)
end
