/-! the start -/
def tmS (k : Nat) : Term := .static RX3 (sNm k) "[I"
theorem sta_a : ∀ k : Fin 4, Cond.arrayOf (tmS k) .int ∈ flatC (Jvm.Cond.and given_1 narrow_1) := by decide +kernel
theorem sta_l : ∀ k : Fin 4, Cond.eq (.length (tmS k)) (.int (Int32.ofNat (sTb k).length)) ∈ flatC (Jvm.Cond.and given_1 narrow_1) := by decide +kernel
theorem sta_e : ∀ k : Fin 4, ∀ j : Fin 25, j.val < (sTb k).length → Cond.eq (.elem (tmS k) (.int (Int32.ofNat j))) (.int (sFn k j)) ∈ flatC (Jvm.Cond.and given_1 narrow_1) := by decide +kernel
theorem sta_n : ∀ k : Fin 4, (sTb k).length ≤ 25 := by decide +kernel
theorem sta_of {b : Nat} {s : State} (hts : ∀ w ∈ lw_tbl, w.before #[Value.ref b] s = true) (hgv : (Jvm.Cond.and given_1 narrow_1).before #[Value.ref b] s = true) (k : Fin 4) : ∃ t : Nat, va_Z RX3 (sNm k) "[I" (.ref t) (AL s) s s.heap ∧ va_T .int t (sTb k).length (fun j => .int (sFn k j)) (AL s) s s.heap := by
  have hs := flat_of_before _ hgv
  have hA : ∀ a : Nat, a < s.heap.size → ¬ AL s a := fun a h => Nat.not_le.mpr h
  obtain ⟨t, h1, h2⟩ := va_Tof (tm := tmS k) (ty := .int) (N := (sTb k).length) (f := fun j => .int (sFn k j)) (A := AL s) (Nat.lt_of_le_of_lt (sta_n k) (by decide)) (hs _ (sta_a k)) (va_eqt (hs _ (sta_l k))) (fun j hj => va_eqt (hs _ (sta_e k ⟨j, Nat.lt_of_lt_of_le hj (sta_n k)⟩ hj))) hA
  exact ⟨t, va_Zof (hts _ (lw_t (sta_w k))) (hts _ (lw_t sta_i)) h1 hA, h2⟩
theorem whole_start {p : Program} {e : Env} {s : State} {m : MethodId} {below : List Frame} {meth : Method} {c : Code} (l : Launch) (hflags : l.flags = flags0) {b L : Nat} {xs : Nat → Int32} (hL : L ≤ 2560) (C0 : lw_At p s m meth c b L xs) : W p l e room_1 s m #[Value.ref b] below meth c s.heap [] 0 0 (lw_Z below #[Value.ref b] s) (entryFrame m ([Value.ref b] : List Value).toArray 4) := by
  obtain ⟨hx, hb, hr, hml, hown, hts, hX, hbl, hlocks, hgv⟩ := id C0
  have hbA : ¬ AL s b := Nat.not_le.mpr hbl
  obtain ⟨c0, i0, K0⟩ := u_known (C := RX0) (T := TX0) (N := 4) (n := 4) hts wi_X00 (hts _ (lw_t ins_0))
  obtain ⟨c1, i1, K1⟩ := u_known (C := RX1) (T := TX1) (N := 10) (n := 10) hts wi_X10 (hts _ (lw_t ins_1))
  obtain ⟨c2, i2, K2⟩ := u_known (C := RX2) (T := TX2) (N := 1) (n := 1) hts wi_X20 (hts _ (lw_t ins_2))
  obtain ⟨c3, i3, K3⟩ := u_known (C := RX3) (T := TX3) (N := 14) (n := 14) hts wi_X30 (hts _ (lw_t ins_3))
  obtain ⟨c4, i4, K4⟩ := u_known (C := RX4) (T := TX4) (N := 34) (n := 34) hts wi_X40 (hts _ (lw_t ins_4))
  obtain ⟨a0, A0⟩ := arr_int (hts _ (wsL_law_in _ wl_19))
  obtain ⟨a1, A1⟩ := arr_long (hts _ (wsL_law_in _ wl_60))
  have hAO : va_AO RX0 s := va_AO.of (hts _ (lw_t ao_0))
  obtain ⟨a2, A2⟩ := arr_jug hAO
  obtain ⟨t0, Z0⟩ := sta_of hts hgv 0
  obtain ⟨t1, Z1⟩ := sta_of hts hgv 1
  obtain ⟨t2, Z2⟩ := sta_of hts hgv 2
  obtain ⟨t3, Z3⟩ := sta_of hts hgv 3
  obtain ⟨dC, dI, hKc⟩ : ∃ (dC : Nat → ClassId) (dI : Nat → Nat → Nat), ∀ (k : Nat) (q : vw_C), vwCl[k]? = some q → u_Kn s q.1 q.2.1 q.2.2 (dC k) (dI k) := by
    refine ⟨fun k => match k with | 0 => c0 | 1 => c1 | 2 => c2 | 3 => c3 | _ => c4, fun k => match k with | 0 => i0 | 1 => i1 | 2 => i2 | 3 => i3 | _ => i4, ?_⟩
    intro k q hq
    match k, hq with
    | 0, hq => cases hq; exact K0
    | 1, hq => cases hq; exact K1
    | 2, hq => cases hq; exact K2
    | 3, hq => cases hq; exact K3
    | 4, hq => cases hq; exact K4
    | k + 5, hq => simp [vwCl] at hq
  obtain ⟨aC, hKa⟩ : ∃ aC : Nat → ClassId, ∀ (k : Nat) (q : ClassId × FieldType), ([(aC 0, .int), (aC 1, .long), (aC 2, .object RX0)] : List (ClassId × FieldType))[k]? = some q → ArrOfT s q.1 q.2 ∧ va_RA s q.1 q.2 := by
    refine ⟨fun k => match k with | 0 => a0 | 1 => a1 | _ => a2, ?_⟩
    intro k q hq
    match k, hq with
    | 0, hq => cases hq; exact A0
    | 1, hq => cases hq; exact A1
    | 2, hq => cases hq; exact A2
    | k + 3, hq => simp at hq
  obtain ⟨tC, hZ⟩ : ∃ tC : Nat → Nat, ∀ k, k < 4 → va_Z RX3 (sNm k) "[I" (.ref (tC k)) (AL s) s s.heap ∧ va_T .int (tC k) (sTb k).length (fun j => .int (sFn k j)) (AL s) s s.heap := by
    refine ⟨fun k => match k with | 0 => t0 | 1 => t1 | 2 => t2 | _ => t3, ?_⟩
    intro k hk
    match k, hk with
    | 0, _ => exact Z0
    | 1, _ => exact Z1
    | 2, _ => exact Z2
    | 3, _ => exact Z3
  have C : Cx p s m #[Value.ref b] c ((dC, dI), aC, tC) (AL s) cL_law 4 wsL_law RL := ⟨⟨hx, hb, hml, hown, fun w h => hts w (wsL_law_in w h)⟩, fun q h => h, ⟨hKc, hKa⟩, hZ, gN_of hts⟩
  rw [lg_entry_eq]
  exact law_new C hAO (fun u d y => law_loop C hr hlocks hX hbl hbA hL 512 0 y k_S0 k_M0 (by omega) (by omega) rel0) s.heap [] _ (fun k q h => by simp at h) ⟨fun i j p q h => by simp at h, fun k q h => by simp at h⟩ va_S.rf (lvH.of (lv_entry ([.ref b]) (n := 4) (Nat.le_of_ble_eq_true rfl)) (lvInB.to (lvInB.sm (lvInB.nn (lvInB.nn (lvInB.nn lvInB.nil))))))
