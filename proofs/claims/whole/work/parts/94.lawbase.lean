/-! the law's world: the class's cells and the reference's behind them -/
theorem wPut_ap1 {B : va_W} : ∀ (ks : List Nat) (w A : va_W), (∀ k ∈ ks, k < A.length) → wPut (A ++ B) ks w = wPut A ks w ++ B
  | [], _, _, _ => by simp [wPut]
  | _ :: _, [], _, _ => by simp [wPut]
  | k :: ks, q :: w, A, h => by
    rw [wPut, wPut, List.set_append_left _ _ (h k List.mem_cons_self)]
    exact wPut_ap1 ks w _ (fun k2 h2 => by rw [List.length_set]; exact h k2 (List.mem_cons_of_mem _ h2))
theorem wPut_ap2 {A : va_W} {n : Nat} (hn : A.length = n) : ∀ (ks : List Nat) (w B : va_W), wPut (A ++ B) (ks.map (n + ·)) w = A ++ wPut B ks w
  | [], _, _ => by simp [wPut]
  | _ :: _, [], _ => by simp [wPut]
  | k :: ks, q :: w, B => by
    rw [List.map_cons, wPut, wPut, List.set_append_right _ _ (by omega), show n + k - A.length = k by omega]
    exact wPut_ap2 hn ks w _
theorem ap_C1 {A B : va_W} : (List.range A.length).map (fun i => (A ++ B)[i]?) = A.map some := by
  rw [← rg_C (ws := A)]
  exact List.map_congr_left (fun i hi => List.getElem?_append_left (List.mem_range.mp hi))
theorem ap_P1 {A B A2 : va_W} (h : A2.length = A.length) : wPut (A ++ B) (List.range A.length) A2 = A2 ++ B := by
  rw [wPut_ap1 _ _ _ (fun k hk => List.mem_range.mp hk), rg_put h]
theorem ap_C2 {A B : va_W} {n : Nat} (hn : A.length = n) : ((List.range B.length).map (n + ·)).map (fun i => (A ++ B)[i]?) = B.map some := by
  rw [← rg_C (ws := B), List.map_map]
  refine List.map_congr_left (fun i hi => ?_)
  show (A ++ B)[n + i]? = _
  rw [List.getElem?_append_right (by omega), show n + i - A.length = i by omega]
theorem ap_P2 {A B B2 : va_W} {n : Nat} (hn : A.length = n) (h : B2.length = B.length) : wPut (A ++ B) ((List.range B.length).map (n + ·)) B2 = A ++ B2 := by
  rw [wPut_ap2 hn, rg_put h]
section
variable {p : Program} {l : Launch} {e : Env} {R : Room} {s : State} {m : MethodId} {args : Array Value} {below : List Frame} {meth : Method} {c : Code} {Q : State → Prop} {g : gE} {A : Nat → Prop} {cc : ByteArray} {nL : Nat} {Ts : List Cond} {own : String} {cells slots : Nat} {ws : va_W} {lv : List (Option Value)} {st : List Value} {pc : Nat}
theorem g_sld (C : Cx p s m args c g A cc nL Ts own) {b L : Nat} {xs : Nat → Int32} (hX : va_X b L xs s s.heap) (hbl : b < s.heap.size) (hbA : ¬ A b) {i : Int32} (hin : vp_in i L) (hd : decode cc pc = .ok (.iaload, 1)) (n : Nat) (hn : pc + 1 = n) (kk : Gm p l e R s m args below meth c Q g A nL cells slots ws lv (.int (xs i.toNatClampNeg) :: st) n) : Gm p l e R s m args below meth c Q g A nL cells slots ws lv (.int i :: .ref b :: st) pc := by
  subst hn
  exact fun H locs ls hP hD hS hl => va_sld C.1.1 C.1.2.1 hX hbl hbA hS hin hd (kk H locs ls hP hD hS hl)
theorem g_slen (C : Cx p s m args c g A cc nL Ts own) {b L : Nat} {xs : Nat → Int32} (hX : va_X b L xs s s.heap) (hbl : b < s.heap.size) (hbA : ¬ A b) (hd : decode cc pc = .ok (.arraylength, 1)) (n : Nat) (hn : pc + 1 = n) (kk : Gm p l e R s m args below meth c Q g A nL cells slots ws lv (.int (Int32.ofNat L) :: st) n) : Gm p l e R s m args below meth c Q g A nL cells slots ws lv (.ref b :: st) pc := by
  subst hn
  exact fun H locs ls hP hD hS hl => va_slen C.1.1 C.1.2.1 hX hbl hbA hS hd (kk H locs ls hP hD hS hl)
/-- one number of the script on the stack -/
theorem g_sarg (C : Cx p s m args c g A cc nL Ts own) {b L : Nat} {xs : Nat → Int32} (hX : va_X b L xs s s.heap) (hbl : b < s.heap.size) (hbA : ¬ A b) {i : Nat} (h0 : lv[0]? = some (some (.ref b))) (h3 : lv[3]? = some (some (.int (Int32.ofNat i)))) {z : Int} (k : Nat) (hz : Int32.ofInt z = Int32.ofNat k) (hk : i + k < L) (hL : L ≤ 2560) (d0 : decode cc pc = .ok (.aload_n 0, 1)) (d1 : decode cc (pc + 1) = .ok (.iload_n 3, 1)) (d2 : decode cc (pc + 2) = .ok (.iconst z, 1)) (d3 : decode cc (pc + 3) = .ok (.iadd, 1)) (d4 : decode cc (pc + 4) = .ok (.iaload, 1)) (n : Nat) (hn : pc + 5 = n) (kk : Gm p l e R s m args below meth c Q g A nL cells slots ws lv (.int (xs (i + k)) :: st) n) : Gm p l e R s m args below meth c Q g A nL cells slots ws lv st pc := by
  subst hn
  refine g_aload_n C d0 h0 (pc + 1) rfl ?_
  refine g_iload_n C d1 h3 (pc + 2) rfl ?_
  refine g_iconst C d2 (Int32.ofNat k) hz (pc + 3) rfl ?_
  refine g_iadd C d3 (pc + 4) rfl ?_
  have e1 : Int32.ofNat i + Int32.ofNat k = Int32.ofNat (i + k) := p_add i k
  rw [e1]
  refine g_sld C hX hbl hbA (xs := xs) (by unfold vp_in; rw [p_tn (by omega)]; exact p_nbi hk (by omega)) d4 (pc + 5) rfl ?_
  rw [p_tn (by omega)]
  exact kk
end
