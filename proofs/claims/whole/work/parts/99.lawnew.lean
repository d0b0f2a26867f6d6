/-! the law's two objects -/
section
variable {p : Program} {l : Launch} {e : Env} {s : State} {m : MethodId} {below : List Frame} {meth : Method} {c : Code} {g : gE} {b : Nat}
theorem law_new (C : Cx p s m #[Value.ref b] c g (AL s) cL_law 4 wsL_law RL) (hAO : va_AO RX0 s) {Q : State → Prop} (kk : ∀ (u d : Nat → Nat) (y : Nat → Nat → Nat), LGo p l e s m #[Value.ref b] below meth c Q g (AL s) u d b 0 18 y k_S0 k_M0) : Gm p l e room_1 s m #[Value.ref b] below meth c Q g (AL s) 4 0 0 [] [some (.ref b), none, none, none] [] 0 := by
  refine g_new (ci := 3) C hiA_3 tyX3 tyX3_ok wl_0 wl_1 wl_2 rfl [.null, .null, .null, .int 0, .null, .int 0, .null, .int 0, .null, .null, .null, .null, .null, .null] dfX3 dL_law_0 3 1 14 rfl rfl rfl ⟨Nat.le_of_ble_eq_true rfl, Nat.le_of_ble_eq_true rfl⟩ (fun q0 => ?_)
  refine g_ws ([(q0, .inr (3, [.null, .null, .null, .int 0, .null, .int 0, .null, .int 0, .null, .null, .null, .null, .null, .null]))]) rfl ?_
  refine g_dup C dL_law_3 rfl 4 rfl ?_
  refine g_callN C [0] rfl (rn_Ia C hAO (k_X3_init l g q0) (cwI 0 C.1.2.2.2.2 (gdL wl_8) rfl rfl rfl (C.1.2.2.2.2 _ wl_2) (C.1.2.2.2.2 _ wl_6) (C.1.2.2.2.2 _ wl_7) rfl hd_X3_init.2 ⟨Nat.le_of_ble_eq_true rfl, Nat.le_of_ble_eq_true rfl⟩) [0] rfl rfl rfl rfl (Nat.le_of_ble_eq_true rfl) ⟨Nat.le_of_ble_eq_true rfl, Nat.le_of_ble_eq_true rfl⟩ dL_law_4) [] (wr := []) rfl (by decide) (fun i h => absurd h List.not_mem_nil) 7 45 332 rfl rfl rfl (fun u hu => ?_)
  obtain rfl : q0 = u.1 0 := hu.symm
  refine g_ws (wC g u.1 u.2 k_S0) (List.nil_append _) ?_
  refine g_astore_n C dL_law_7 (x := u.1 0) [some (.ref b), some (.ref (u.1 0)), none, none] (by decide) rfl rfl 8 rfl ?_
  refine g_new (ci := 4) C hiA_4 tyX4 tyX4_ok wl_3 wl_4 wl_5 rfl [.null, .null, .null, .null, .null, .null, .null, .null, .null, .int 0, .int 0, .int 0, .int 0, .int 0, .null, .null, .null, .null, .int 0, .int 0, .int 0, .null, .int 0, .int 0, .int 0, .null, .null, .null, .null, .null, .int 0, .int 0, .int 0, .int 0] dfX4 dL_law_8 11 46 366 rfl rfl rfl ⟨Nat.le_of_ble_eq_true rfl, Nat.le_of_ble_eq_true rfl⟩ (fun q1 => ?_)
  refine g_dup C dL_law_11 rfl 12 rfl ?_
  refine g_callN C [45] rfl (rn_Ia C hAO (k_X4_init l g q1) (cwI 0 C.1.2.2.2.2 (gdL wl_64) rfl rfl rfl (C.1.2.2.2.2 _ wl_5) (C.1.2.2.2.2 _ wl_62) (C.1.2.2.2.2 _ wl_63) rfl hd_X4_init.2 ⟨Nat.le_of_ble_eq_true rfl, Nat.le_of_ble_eq_true rfl⟩) [45] rfl rfl rfl rfl (Nat.le_of_ble_eq_true rfl) ⟨Nat.le_of_ble_eq_true rfl, Nat.le_of_ble_eq_true rfl⟩ dL_law_12) _ (wr := wC g u.1 u.2 k_S0) ap_C1 rg_n (fun i hi h => by
    have h1 := List.mem_range.mp hi
    rw [wC_len] at h1
    rcases List.mem_singleton.mp h with rfl
    omega) 15 65 952 rfl rfl rfl (fun d hd => ?_)
  obtain rfl : q1 = d 0 := hd.symm
  refine g_astore_n C dL_law_15 (x := d 0) [some (.ref b), some (.ref (u.1 0)), some (.ref (d 0)), none] (by decide) rfl rfl 16 rfl ?_
  refine g_iconst C dL_law_16 0 rfl 17 rfl ?_
  refine g_istore_n C dL_law_17 (x := 0) (LvL b (u.1 0) (d 0) 0) (by decide) rfl rfl 18 rfl ?_
  exact kk u.1 d u.2
end
