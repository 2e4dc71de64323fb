/-! ===== the constructors ===== -/
abbrev z0 : fI := fun _ => 0
theorem i_graph : aRet 1 2 60 mX2_init [.ref 1] [.inr (7, [.null, .null, .null, .null, .null, .null, .null]), .inr (2, [.int 0, .null, .null])] (fun w g => w = none ∧ g = [.inr (7, [.null, .null, .null, .null, .null, .null, .null]), .inr (2, [.int 0, .ref 2, .ref 3]), .inl (false, 30, z0), .inl (false, 30, z0)]) := by
  refine aRet.of (by decide) (Nat.le_of_ble_eq_true rfl) (a_ok2 rfl) ?_
  refine g_aload_n (i := 0) (pc1 := 1) dX2_init_0 rfl rfl rfl ?_
  refine g_objInit (pc1 := 4) dX2_init_1 rfl lkX2_3 wO1 wO2 (Nat.le_of_ble_eq_true rfl) (a_ok1 rfl) (a_ok2 rfl) ?_
  refine g_aload_n (i := 0) (pc1 := 5) dX2_init_4 rfl rfl rfl ?_
  refine g_iconst (v := 0) (pc1 := 6) dX2_init_5 rfl (by decide) ?_
  refine g_puti (pc1 := 9) dX2_init_6 rfl flX2_9 rfl (Nat.le_of_ble_eq_true rfl) rfl rfl ?_
  refine g_aload_n (i := 0) (pc1 := 10) dX2_init_9 rfl rfl rfl ?_
  refine g_bipush (v := 30) (pc1 := 12) dX2_init_10 rfl (by decide) ?_
  refine g_newi (N := 30) (pc1 := 14) dX2_init_12 rfl wI (by decide) rfl (by decide) rfl rfl (Nat.le_of_ble_eq_true rfl) (Nat.le_of_ble_eq_true rfl) ?_
  refine g_putrF (pc1 := 17) dX2_init_14 rfl flX2_15 rfl (Nat.le_of_ble_eq_true rfl) (fun _ => ⟨rfl, rfl⟩) rfl rfl ?_
  refine g_aload_n (i := 0) (pc1 := 18) dX2_init_17 rfl rfl rfl ?_
  refine g_bipush (v := 30) (pc1 := 20) dX2_init_18 rfl (by decide) ?_
  refine g_newi (N := 30) (pc1 := 22) dX2_init_20 rfl wI (by decide) rfl (by decide) rfl rfl (Nat.le_of_ble_eq_true rfl) (Nat.le_of_ble_eq_true rfl) ?_
  refine g_putrF (pc1 := 25) dX2_init_22 rfl flX2_19 rfl (Nat.le_of_ble_eq_true rfl) (fun _ => ⟨rfl, rfl⟩) rfl rfl ?_
  refine g_vret dX2_init_25 rfl (Nat.le_of_ble_eq_true rfl) (Nat.le_of_ble_eq_true rfl) ?_
  exact ⟨rfl, rfl⟩
theorem i_col : aRet 1 3 90 mX1_init [.ref 4, .ref 1] [.inr (7, [.ref 1, .null, .null, .null, .null, .null, .null]), .inr (2, [.int 0, .ref 2, .ref 3]), .inl (false, 30, z0), .inl (false, 30, z0), .inr (1, [.null, .null, .null, .null, .int 0, .int 0])] (fun w g => w = none ∧ g = [.inr (7, [.ref 1, .null, .null, .null, .null, .null, .null]), .inr (2, [.int 0, .ref 2, .ref 3]), .inl (false, 30, z0), .inl (false, 30, z0), .inr (1, [.ref 1, .ref 5, .ref 6, .ref 7, .int 0, .int 0]), .inl (false, 30, z0), .inl (false, 30, z0), .inl (false, 30, z0)]) := by
  refine aRet.of (by decide) (Nat.le_of_ble_eq_true rfl) (a_ok2 rfl) ?_
  refine g_aload_n (i := 0) (pc1 := 1) dX1_init_0 rfl rfl rfl ?_
  refine g_objInit (pc1 := 4) dX1_init_1 rfl lkX1_3 wO1 wO2 (Nat.le_of_ble_eq_true rfl) (a_ok1 rfl) (a_ok2 rfl) ?_
  refine g_aload_n (i := 0) (pc1 := 5) dX1_init_4 rfl rfl rfl ?_
  refine g_bipush (v := 30) (pc1 := 7) dX1_init_5 rfl (by decide) ?_
  refine g_newi (N := 30) (pc1 := 9) dX1_init_7 rfl wI (by decide) rfl (by decide) rfl rfl (Nat.le_of_ble_eq_true rfl) (Nat.le_of_ble_eq_true rfl) ?_
  refine g_putrF (pc1 := 12) dX1_init_9 rfl flX1_9 rfl (Nat.le_of_ble_eq_true rfl) (fun _ => ⟨rfl, rfl⟩) rfl rfl ?_
  refine g_aload_n (i := 0) (pc1 := 13) dX1_init_12 rfl rfl rfl ?_
  refine g_bipush (v := 30) (pc1 := 15) dX1_init_13 rfl (by decide) ?_
  refine g_newi (N := 30) (pc1 := 17) dX1_init_15 rfl wI (by decide) rfl (by decide) rfl rfl (Nat.le_of_ble_eq_true rfl) (Nat.le_of_ble_eq_true rfl) ?_
  refine g_putrF (pc1 := 20) dX1_init_17 rfl flX1_15 rfl (Nat.le_of_ble_eq_true rfl) (fun _ => ⟨rfl, rfl⟩) rfl rfl ?_
  refine g_aload_n (i := 0) (pc1 := 21) dX1_init_20 rfl rfl rfl ?_
  refine g_bipush (v := 30) (pc1 := 23) dX1_init_21 rfl (by decide) ?_
  refine g_newi (N := 30) (pc1 := 25) dX1_init_23 rfl wI (by decide) rfl (by decide) rfl rfl (Nat.le_of_ble_eq_true rfl) (Nat.le_of_ble_eq_true rfl) ?_
  refine g_putrF (pc1 := 28) dX1_init_25 rfl flX1_18 rfl (Nat.le_of_ble_eq_true rfl) (fun _ => ⟨rfl, rfl⟩) rfl rfl ?_
  refine g_aload_n (i := 0) (pc1 := 29) dX1_init_28 rfl rfl rfl ?_
  refine g_iconst (v := 0) (pc1 := 30) dX1_init_29 rfl (by decide) ?_
  refine g_puti (pc1 := 33) dX1_init_30 rfl flX1_21 rfl (Nat.le_of_ble_eq_true rfl) rfl rfl ?_
  refine g_aload_n (i := 0) (pc1 := 34) dX1_init_33 rfl rfl rfl ?_
  refine g_iconst (v := 0) (pc1 := 35) dX1_init_34 rfl (by decide) ?_
  refine g_puti (pc1 := 38) dX1_init_35 rfl flX1_25 rfl (Nat.le_of_ble_eq_true rfl) rfl rfl ?_
  refine g_aload_n (i := 0) (pc1 := 39) dX1_init_38 rfl rfl rfl ?_
  refine g_aload_n (i := 1) (pc1 := 40) dX1_init_39 rfl rfl rfl ?_
  refine g_putrF (pc1 := 43) dX1_init_40 rfl flX1_28 rfl (Nat.le_of_ble_eq_true rfl) (fun _ => ⟨rfl, rfl⟩) rfl rfl ?_
  refine g_vret dX1_init_43 rfl (Nat.le_of_ble_eq_true rfl) (Nat.le_of_ble_eq_true rfl) ?_
  exact ⟨rfl, rfl⟩
theorem i_log9 : aRet 1 2 6000 mX3_init [.ref 9] [.inr (7, [.ref 1, .ref 4, .null, .null, .null, .null, .null]), .inr (2, [.int 0, .ref 2, .ref 3]), .inl (false, 30, z0), .inl (false, 30, z0), .inr (1, [.ref 1, .ref 5, .ref 6, .ref 7, .int 0, .int 0]), .inl (false, 30, z0), .inl (false, 30, z0), .inl (false, 30, z0), .inr (4, [.null, .null, .int 0, .null, .int 0, .int 0]), .inr (3, [.int 0, .null, .null])] (fun w g => w = none ∧ g = [.inr (7, [.ref 1, .ref 4, .null, .null, .null, .null, .null]), .inr (2, [.int 0, .ref 2, .ref 3]), .inl (false, 30, z0), .inl (false, 30, z0), .inr (1, [.ref 1, .ref 5, .ref 6, .ref 7, .int 0, .int 0]), .inl (false, 30, z0), .inl (false, 30, z0), .inl (false, 30, z0), .inr (4, [.null, .null, .int 0, .null, .int 0, .int 0]), .inr (3, [.int 0, .ref 10, .ref 11]), .inl (false, 3000, z0), .inl (false, 3000, z0)]) := by
  refine aRet.of (by decide) (Nat.le_of_ble_eq_true rfl) (a_ok2 rfl) ?_
  refine g_aload_n (i := 0) (pc1 := 1) dX3_init_0 rfl rfl rfl ?_
  refine g_objInit (pc1 := 4) dX3_init_1 rfl lkX3_3 wO1 wO2 (Nat.le_of_ble_eq_true rfl) (a_ok1 rfl) (a_ok2 rfl) ?_
  refine g_aload_n (i := 0) (pc1 := 5) dX3_init_4 rfl rfl rfl ?_
  refine g_iconst (v := 0) (pc1 := 6) dX3_init_5 rfl (by decide) ?_
  refine g_puti (pc1 := 9) dX3_init_6 rfl flX3_9 rfl (Nat.le_of_ble_eq_true rfl) rfl rfl ?_
  refine g_aload_n (i := 0) (pc1 := 10) dX3_init_9 rfl rfl rfl ?_
  refine g_sipush (v := 3000) (pc1 := 13) dX3_init_10 rfl (by decide) ?_
  refine g_newi (N := 3000) (pc1 := 15) dX3_init_13 rfl wI (by decide) rfl (by decide) rfl rfl (Nat.le_of_ble_eq_true rfl) (Nat.le_of_ble_eq_true rfl) ?_
  refine g_putrF (pc1 := 18) dX3_init_15 rfl flX3_15 rfl (Nat.le_of_ble_eq_true rfl) (fun _ => ⟨rfl, rfl⟩) rfl rfl ?_
  refine g_aload_n (i := 0) (pc1 := 19) dX3_init_18 rfl rfl rfl ?_
  refine g_sipush (v := 3000) (pc1 := 22) dX3_init_19 rfl (by decide) ?_
  refine g_newi (N := 3000) (pc1 := 24) dX3_init_22 rfl wI (by decide) rfl (by decide) rfl rfl (Nat.le_of_ble_eq_true rfl) (Nat.le_of_ble_eq_true rfl) ?_
  refine g_putrF (pc1 := 27) dX3_init_24 rfl flX3_19 rfl (Nat.le_of_ble_eq_true rfl) (fun _ => ⟨rfl, rfl⟩) rfl rfl ?_
  refine g_vret dX3_init_27 rfl (Nat.le_of_ble_eq_true rfl) (Nat.le_of_ble_eq_true rfl) ?_
  exact ⟨rfl, rfl⟩
theorem i_search : aRet 2 3 6003 mX4_init [.ref 8, .ref 1, .ref 4] [.inr (7, [.ref 1, .ref 4, .null, .null, .null, .null, .null]), .inr (2, [.int 0, .ref 2, .ref 3]), .inl (false, 30, z0), .inl (false, 30, z0), .inr (1, [.ref 1, .ref 5, .ref 6, .ref 7, .int 0, .int 0]), .inl (false, 30, z0), .inl (false, 30, z0), .inl (false, 30, z0), .inr (4, [.null, .null, .int 0, .null, .int 0, .int 0])] (fun w g => w = none ∧ g = [.inr (7, [.ref 1, .ref 4, .null, .null, .null, .null, .null]), .inr (2, [.int 0, .ref 2, .ref 3]), .inl (false, 30, z0), .inl (false, 30, z0), .inr (1, [.ref 1, .ref 5, .ref 6, .ref 7, .int 0, .int 0]), .inl (false, 30, z0), .inl (false, 30, z0), .inl (false, 30, z0), .inr (4, [.ref 1, .ref 4, .int 0, .ref 9, .int 0, .int 0]), .inr (3, [.int 0, .ref 10, .ref 11]), .inl (false, 3000, z0), .inl (false, 3000, z0)]) := by
  refine aRet.of (by decide) (Nat.le_of_ble_eq_true rfl) (a_ok2 rfl) ?_
  refine g_aload_n (i := 0) (pc1 := 1) dX4_init_0 rfl rfl rfl ?_
  refine g_objInit (pc1 := 4) dX4_init_1 rfl lkX4_3 wO1 wO2 (Nat.le_of_ble_eq_true rfl) (a_ok1 rfl) (a_ok2 rfl) ?_
  refine g_aload_n (i := 0) (pc1 := 5) dX4_init_4 rfl rfl rfl ?_
  refine g_iconst (v := 0) (pc1 := 6) dX4_init_5 rfl (by decide) ?_
  refine g_puti (pc1 := 9) dX4_init_6 rfl flX4_9 rfl (Nat.le_of_ble_eq_true rfl) rfl rfl ?_
  refine g_aload_n (i := 0) (pc1 := 10) dX4_init_9 rfl rfl rfl ?_
  refine g_new (pc1 := 13) dX4_init_10 rfl nwX4_15 rfl rfl (Nat.le_of_ble_eq_true rfl) (Nat.le_of_ble_eq_true rfl) ?_
  refine g_dup (pc1 := 14) dX4_init_13 rfl rfl ?_
  refine g_IN0 (M := mX3_init) (pc1 := 17) dX4_init_14 rfl ⟨rfl, lnX4_17⟩ tmX3_init (i_log9) (Nat.le_of_ble_eq_true rfl) rfl rfl rfl (Nat.le_of_ble_eq_true rfl) (Nat.le_of_ble_eq_true rfl) ?_
  rintro _ _ ⟨rfl, rfl⟩
  show aGo _ 17 _ [.ref 9, .ref 8] _ _ _
  refine g_putrF (pc1 := 20) dX4_init_17 rfl flX4_18 rfl (Nat.le_of_ble_eq_true rfl) (fun _ => ⟨rfl, rfl⟩) rfl rfl ?_
  refine g_aload_n (i := 0) (pc1 := 21) dX4_init_20 rfl rfl rfl ?_
  refine g_iconst (v := 0) (pc1 := 22) dX4_init_21 rfl (by decide) ?_
  refine g_puti (pc1 := 25) dX4_init_22 rfl flX4_22 rfl (Nat.le_of_ble_eq_true rfl) rfl rfl ?_
  refine g_aload_n (i := 0) (pc1 := 26) dX4_init_25 rfl rfl rfl ?_
  refine g_iconst (v := 0) (pc1 := 27) dX4_init_26 rfl (by decide) ?_
  refine g_puti (pc1 := 30) dX4_init_27 rfl flX4_25 rfl (Nat.le_of_ble_eq_true rfl) rfl rfl ?_
  refine g_aload_n (i := 0) (pc1 := 31) dX4_init_30 rfl rfl rfl ?_
  refine g_aload_n (i := 1) (pc1 := 32) dX4_init_31 rfl rfl rfl ?_
  refine g_putrF (pc1 := 35) dX4_init_32 rfl flX4_28 rfl (Nat.le_of_ble_eq_true rfl) (fun _ => ⟨rfl, rfl⟩) rfl rfl ?_
  refine g_aload_n (i := 0) (pc1 := 36) dX4_init_35 rfl rfl rfl ?_
  refine g_aload_n (i := 2) (pc1 := 37) dX4_init_36 rfl rfl rfl ?_
  refine g_putrF (pc1 := 40) dX4_init_37 rfl flX4_32 rfl (Nat.le_of_ble_eq_true rfl) (fun _ => ⟨rfl, rfl⟩) rfl rfl ?_
  refine g_vret dX4_init_40 rfl (Nat.le_of_ble_eq_true rfl) (Nat.le_of_ble_eq_true rfl) ?_
  exact ⟨rfl, rfl⟩
theorem i_log14 : aRet 1 2 6000 mX3_init [.ref 14] [.inr (7, [.ref 1, .ref 4, .ref 8, .null, .null, .null, .null]), .inr (2, [.int 0, .ref 2, .ref 3]), .inl (false, 30, z0), .inl (false, 30, z0), .inr (1, [.ref 1, .ref 5, .ref 6, .ref 7, .int 0, .int 0]), .inl (false, 30, z0), .inl (false, 30, z0), .inl (false, 30, z0), .inr (4, [.ref 1, .ref 4, .int 0, .ref 9, .int 0, .int 0]), .inr (3, [.int 0, .ref 10, .ref 11]), .inl (false, 3000, z0), .inl (false, 3000, z0), .inr (5, [.null, .null, .null, .int 0, .ref 13, .int 0, .null, .null]), .inl (false, 30, z0), .inr (3, [.int 0, .null, .null])] (fun w g => w = none ∧ g = [.inr (7, [.ref 1, .ref 4, .ref 8, .null, .null, .null, .null]), .inr (2, [.int 0, .ref 2, .ref 3]), .inl (false, 30, z0), .inl (false, 30, z0), .inr (1, [.ref 1, .ref 5, .ref 6, .ref 7, .int 0, .int 0]), .inl (false, 30, z0), .inl (false, 30, z0), .inl (false, 30, z0), .inr (4, [.ref 1, .ref 4, .int 0, .ref 9, .int 0, .int 0]), .inr (3, [.int 0, .ref 10, .ref 11]), .inl (false, 3000, z0), .inl (false, 3000, z0), .inr (5, [.null, .null, .null, .int 0, .ref 13, .int 0, .null, .null]), .inl (false, 30, z0), .inr (3, [.int 0, .ref 15, .ref 16]), .inl (false, 3000, z0), .inl (false, 3000, z0)]) := by
  refine aRet.of (by decide) (Nat.le_of_ble_eq_true rfl) (a_ok2 rfl) ?_
  refine g_aload_n (i := 0) (pc1 := 1) dX3_init_0 rfl rfl rfl ?_
  refine g_objInit (pc1 := 4) dX3_init_1 rfl lkX3_3 wO1 wO2 (Nat.le_of_ble_eq_true rfl) (a_ok1 rfl) (a_ok2 rfl) ?_
  refine g_aload_n (i := 0) (pc1 := 5) dX3_init_4 rfl rfl rfl ?_
  refine g_iconst (v := 0) (pc1 := 6) dX3_init_5 rfl (by decide) ?_
  refine g_puti (pc1 := 9) dX3_init_6 rfl flX3_9 rfl (Nat.le_of_ble_eq_true rfl) rfl rfl ?_
  refine g_aload_n (i := 0) (pc1 := 10) dX3_init_9 rfl rfl rfl ?_
  refine g_sipush (v := 3000) (pc1 := 13) dX3_init_10 rfl (by decide) ?_
  refine g_newi (N := 3000) (pc1 := 15) dX3_init_13 rfl wI (by decide) rfl (by decide) rfl rfl (Nat.le_of_ble_eq_true rfl) (Nat.le_of_ble_eq_true rfl) ?_
  refine g_putrF (pc1 := 18) dX3_init_15 rfl flX3_15 rfl (Nat.le_of_ble_eq_true rfl) (fun _ => ⟨rfl, rfl⟩) rfl rfl ?_
  refine g_aload_n (i := 0) (pc1 := 19) dX3_init_18 rfl rfl rfl ?_
  refine g_sipush (v := 3000) (pc1 := 22) dX3_init_19 rfl (by decide) ?_
  refine g_newi (N := 3000) (pc1 := 24) dX3_init_22 rfl wI (by decide) rfl (by decide) rfl rfl (Nat.le_of_ble_eq_true rfl) (Nat.le_of_ble_eq_true rfl) ?_
  refine g_putrF (pc1 := 27) dX3_init_24 rfl flX3_19 rfl (Nat.le_of_ble_eq_true rfl) (fun _ => ⟨rfl, rfl⟩) rfl rfl ?_
  refine g_vret dX3_init_27 rfl (Nat.le_of_ble_eq_true rfl) (Nat.le_of_ble_eq_true rfl) ?_
  exact ⟨rfl, rfl⟩
theorem i_sol : aRet 2 5 6038 mX5_init [.ref 12, .ref 1, .ref 4, .ref 8] [.inr (7, [.ref 1, .ref 4, .ref 8, .null, .null, .null, .null]), .inr (2, [.int 0, .ref 2, .ref 3]), .inl (false, 30, z0), .inl (false, 30, z0), .inr (1, [.ref 1, .ref 5, .ref 6, .ref 7, .int 0, .int 0]), .inl (false, 30, z0), .inl (false, 30, z0), .inl (false, 30, z0), .inr (4, [.ref 1, .ref 4, .int 0, .ref 9, .int 0, .int 0]), .inr (3, [.int 0, .ref 10, .ref 11]), .inl (false, 3000, z0), .inl (false, 3000, z0), .inr (5, [.null, .null, .null, .int 0, .null, .int 0, .null, .null])] (fun w g => w = none ∧ g = [.inr (7, [.ref 1, .ref 4, .ref 8, .null, .null, .null, .null]), .inr (2, [.int 0, .ref 2, .ref 3]), .inl (false, 30, z0), .inl (false, 30, z0), .inr (1, [.ref 1, .ref 5, .ref 6, .ref 7, .int 0, .int 0]), .inl (false, 30, z0), .inl (false, 30, z0), .inl (false, 30, z0), .inr (4, [.ref 1, .ref 4, .int 0, .ref 9, .int 0, .int 0]), .inr (3, [.int 0, .ref 10, .ref 11]), .inl (false, 3000, z0), .inl (false, 3000, z0), .inr (5, [.ref 1, .ref 4, .ref 8, .int 0, .ref 13, .int 0, .ref 14, .ref 17]), .inl (false, 30, z0), .inr (3, [.int 0, .ref 15, .ref 16]), .inl (false, 3000, z0), .inl (false, 3000, z0), .inl (false, 5, z0)]) := by
  refine aRet.of (by decide) (Nat.le_of_ble_eq_true rfl) (a_ok2 rfl) ?_
  refine g_aload_n (i := 0) (pc1 := 1) dX5_init_0 rfl rfl rfl ?_
  refine g_objInit (pc1 := 4) dX5_init_1 rfl lkX5_3 wO1 wO2 (Nat.le_of_ble_eq_true rfl) (a_ok1 rfl) (a_ok2 rfl) ?_
  refine g_aload_n (i := 0) (pc1 := 5) dX5_init_4 rfl rfl rfl ?_
  refine g_iconst (v := 0) (pc1 := 6) dX5_init_5 rfl (by decide) ?_
  refine g_puti (pc1 := 9) dX5_init_6 rfl flX5_9 rfl (Nat.le_of_ble_eq_true rfl) rfl rfl ?_
  refine g_aload_n (i := 0) (pc1 := 10) dX5_init_9 rfl rfl rfl ?_
  refine g_bipush (v := 30) (pc1 := 12) dX5_init_10 rfl (by decide) ?_
  refine g_newi (N := 30) (pc1 := 14) dX5_init_12 rfl wI (by decide) rfl (by decide) rfl rfl (Nat.le_of_ble_eq_true rfl) (Nat.le_of_ble_eq_true rfl) ?_
  refine g_putrF (pc1 := 17) dX5_init_14 rfl flX5_15 rfl (Nat.le_of_ble_eq_true rfl) (fun _ => ⟨rfl, rfl⟩) rfl rfl ?_
  refine g_aload_n (i := 0) (pc1 := 18) dX5_init_17 rfl rfl rfl ?_
  refine g_iconst (v := 0) (pc1 := 19) dX5_init_18 rfl (by decide) ?_
  refine g_puti (pc1 := 22) dX5_init_19 rfl flX5_19 rfl (Nat.le_of_ble_eq_true rfl) rfl rfl ?_
  refine g_aload_n (i := 0) (pc1 := 23) dX5_init_22 rfl rfl rfl ?_
  refine g_new (pc1 := 26) dX5_init_23 rfl nwX5_23 rfl rfl (Nat.le_of_ble_eq_true rfl) (Nat.le_of_ble_eq_true rfl) ?_
  refine g_dup (pc1 := 27) dX5_init_26 rfl rfl ?_
  refine g_IN0 (M := mX3_init) (pc1 := 30) dX5_init_27 rfl ⟨rfl, lnX5_25⟩ tmX3_init (i_log14) (Nat.le_of_ble_eq_true rfl) rfl rfl rfl (Nat.le_of_ble_eq_true rfl) (Nat.le_of_ble_eq_true rfl) ?_
  rintro _ _ ⟨rfl, rfl⟩
  show aGo _ 30 _ [.ref 14, .ref 12] _ _ _
  refine g_putrF (pc1 := 33) dX5_init_30 rfl flX5_26 rfl (Nat.le_of_ble_eq_true rfl) (fun _ => ⟨rfl, rfl⟩) rfl rfl ?_
  refine g_aload_n (i := 0) (pc1 := 34) dX5_init_33 rfl rfl rfl ?_
  refine g_iconst (v := 5) (pc1 := 35) dX5_init_34 rfl (by decide) ?_
  refine g_newi (N := 5) (pc1 := 37) dX5_init_35 rfl wI (by decide) rfl (by decide) rfl rfl (Nat.le_of_ble_eq_true rfl) (Nat.le_of_ble_eq_true rfl) ?_
  refine g_putrF (pc1 := 40) dX5_init_37 rfl flX5_30 rfl (Nat.le_of_ble_eq_true rfl) (fun _ => ⟨rfl, rfl⟩) rfl rfl ?_
  refine g_aload_n (i := 0) (pc1 := 41) dX5_init_40 rfl rfl rfl ?_
  refine g_aload_n (i := 1) (pc1 := 42) dX5_init_41 rfl rfl rfl ?_
  refine g_putrF (pc1 := 45) dX5_init_42 rfl flX5_33 rfl (Nat.le_of_ble_eq_true rfl) (fun _ => ⟨rfl, rfl⟩) rfl rfl ?_
  refine g_aload_n (i := 0) (pc1 := 46) dX5_init_45 rfl rfl rfl ?_
  refine g_aload_n (i := 2) (pc1 := 47) dX5_init_46 rfl rfl rfl ?_
  refine g_putrF (pc1 := 50) dX5_init_47 rfl flX5_37 rfl (Nat.le_of_ble_eq_true rfl) (fun _ => ⟨rfl, rfl⟩) rfl rfl ?_
  refine g_aload_n (i := 0) (pc1 := 51) dX5_init_50 rfl rfl rfl ?_
  refine g_aload_n (i := 3) (pc1 := 52) dX5_init_51 rfl rfl rfl ?_
  refine g_putrF (pc1 := 55) dX5_init_52 rfl flX5_41 rfl (Nat.le_of_ble_eq_true rfl) (fun _ => ⟨rfl, rfl⟩) rfl rfl ?_
  refine g_vret dX5_init_55 rfl (Nat.le_of_ble_eq_true rfl) (Nat.le_of_ble_eq_true rfl) ?_
  exact ⟨rfl, rfl⟩
theorem i_log18 : aRet 1 2 6000 mX3_init [.ref 18] [.inr (7, [.ref 1, .ref 4, .ref 8, .ref 12, .null, .null, .null]), .inr (2, [.int 0, .ref 2, .ref 3]), .inl (false, 30, z0), .inl (false, 30, z0), .inr (1, [.ref 1, .ref 5, .ref 6, .ref 7, .int 0, .int 0]), .inl (false, 30, z0), .inl (false, 30, z0), .inl (false, 30, z0), .inr (4, [.ref 1, .ref 4, .int 0, .ref 9, .int 0, .int 0]), .inr (3, [.int 0, .ref 10, .ref 11]), .inl (false, 3000, z0), .inl (false, 3000, z0), .inr (5, [.ref 1, .ref 4, .ref 8, .int 0, .ref 13, .int 0, .ref 14, .ref 17]), .inl (false, 30, z0), .inr (3, [.int 0, .ref 15, .ref 16]), .inl (false, 3000, z0), .inl (false, 3000, z0), .inl (false, 5, z0), .inr (3, [.int 0, .null, .null])] (fun w g => w = none ∧ g = [.inr (7, [.ref 1, .ref 4, .ref 8, .ref 12, .null, .null, .null]), .inr (2, [.int 0, .ref 2, .ref 3]), .inl (false, 30, z0), .inl (false, 30, z0), .inr (1, [.ref 1, .ref 5, .ref 6, .ref 7, .int 0, .int 0]), .inl (false, 30, z0), .inl (false, 30, z0), .inl (false, 30, z0), .inr (4, [.ref 1, .ref 4, .int 0, .ref 9, .int 0, .int 0]), .inr (3, [.int 0, .ref 10, .ref 11]), .inl (false, 3000, z0), .inl (false, 3000, z0), .inr (5, [.ref 1, .ref 4, .ref 8, .int 0, .ref 13, .int 0, .ref 14, .ref 17]), .inl (false, 30, z0), .inr (3, [.int 0, .ref 15, .ref 16]), .inl (false, 3000, z0), .inl (false, 3000, z0), .inl (false, 5, z0), .inr (3, [.int 0, .ref 19, .ref 20]), .inl (false, 3000, z0), .inl (false, 3000, z0)]) := by
  refine aRet.of (by decide) (Nat.le_of_ble_eq_true rfl) (a_ok2 rfl) ?_
  refine g_aload_n (i := 0) (pc1 := 1) dX3_init_0 rfl rfl rfl ?_
  refine g_objInit (pc1 := 4) dX3_init_1 rfl lkX3_3 wO1 wO2 (Nat.le_of_ble_eq_true rfl) (a_ok1 rfl) (a_ok2 rfl) ?_
  refine g_aload_n (i := 0) (pc1 := 5) dX3_init_4 rfl rfl rfl ?_
  refine g_iconst (v := 0) (pc1 := 6) dX3_init_5 rfl (by decide) ?_
  refine g_puti (pc1 := 9) dX3_init_6 rfl flX3_9 rfl (Nat.le_of_ble_eq_true rfl) rfl rfl ?_
  refine g_aload_n (i := 0) (pc1 := 10) dX3_init_9 rfl rfl rfl ?_
  refine g_sipush (v := 3000) (pc1 := 13) dX3_init_10 rfl (by decide) ?_
  refine g_newi (N := 3000) (pc1 := 15) dX3_init_13 rfl wI (by decide) rfl (by decide) rfl rfl (Nat.le_of_ble_eq_true rfl) (Nat.le_of_ble_eq_true rfl) ?_
  refine g_putrF (pc1 := 18) dX3_init_15 rfl flX3_15 rfl (Nat.le_of_ble_eq_true rfl) (fun _ => ⟨rfl, rfl⟩) rfl rfl ?_
  refine g_aload_n (i := 0) (pc1 := 19) dX3_init_18 rfl rfl rfl ?_
  refine g_sipush (v := 3000) (pc1 := 22) dX3_init_19 rfl (by decide) ?_
  refine g_newi (N := 3000) (pc1 := 24) dX3_init_22 rfl wI (by decide) rfl (by decide) rfl rfl (Nat.le_of_ble_eq_true rfl) (Nat.le_of_ble_eq_true rfl) ?_
  refine g_putrF (pc1 := 27) dX3_init_24 rfl flX3_19 rfl (Nat.le_of_ble_eq_true rfl) (fun _ => ⟨rfl, rfl⟩) rfl rfl ?_
  refine g_vret dX3_init_27 rfl (Nat.le_of_ble_eq_true rfl) (Nat.le_of_ble_eq_true rfl) ?_
  exact ⟨rfl, rfl⟩
theorem i_chk : aRet 1 0 0 mX0_init [.ref 21, .ref 1, .ref 4, .ref 18] [.inr (7, [.ref 1, .ref 4, .ref 8, .ref 12, .ref 18, .null, .null]), .inr (2, [.int 0, .ref 2, .ref 3]), .inl (false, 30, z0), .inl (false, 30, z0), .inr (1, [.ref 1, .ref 5, .ref 6, .ref 7, .int 0, .int 0]), .inl (false, 30, z0), .inl (false, 30, z0), .inl (false, 30, z0), .inr (4, [.ref 1, .ref 4, .int 0, .ref 9, .int 0, .int 0]), .inr (3, [.int 0, .ref 10, .ref 11]), .inl (false, 3000, z0), .inl (false, 3000, z0), .inr (5, [.ref 1, .ref 4, .ref 8, .int 0, .ref 13, .int 0, .ref 14, .ref 17]), .inl (false, 30, z0), .inr (3, [.int 0, .ref 15, .ref 16]), .inl (false, 3000, z0), .inl (false, 3000, z0), .inl (false, 5, z0), .inr (3, [.int 0, .ref 19, .ref 20]), .inl (false, 3000, z0), .inl (false, 3000, z0), .inr (0, [.null, .null, .null, .int 0, .int 0])] (fun w g => w = none ∧ g = [.inr (7, [.ref 1, .ref 4, .ref 8, .ref 12, .ref 18, .null, .null]), .inr (2, [.int 0, .ref 2, .ref 3]), .inl (false, 30, z0), .inl (false, 30, z0), .inr (1, [.ref 1, .ref 5, .ref 6, .ref 7, .int 0, .int 0]), .inl (false, 30, z0), .inl (false, 30, z0), .inl (false, 30, z0), .inr (4, [.ref 1, .ref 4, .int 0, .ref 9, .int 0, .int 0]), .inr (3, [.int 0, .ref 10, .ref 11]), .inl (false, 3000, z0), .inl (false, 3000, z0), .inr (5, [.ref 1, .ref 4, .ref 8, .int 0, .ref 13, .int 0, .ref 14, .ref 17]), .inl (false, 30, z0), .inr (3, [.int 0, .ref 15, .ref 16]), .inl (false, 3000, z0), .inl (false, 3000, z0), .inl (false, 5, z0), .inr (3, [.int 0, .ref 19, .ref 20]), .inl (false, 3000, z0), .inl (false, 3000, z0), .inr (0, [.ref 1, .ref 4, .ref 18, .int 0, .int 0])]) := by
  refine aRet.of (by decide) (Nat.le_of_ble_eq_true rfl) (a_ok2 rfl) ?_
  refine g_aload_n (i := 0) (pc1 := 1) dX0_init_0 rfl rfl rfl ?_
  refine g_objInit (pc1 := 4) dX0_init_1 rfl lkX0_3 wO1 wO2 (Nat.le_of_ble_eq_true rfl) (a_ok1 rfl) (a_ok2 rfl) ?_
  refine g_aload_n (i := 0) (pc1 := 5) dX0_init_4 rfl rfl rfl ?_
  refine g_iconst (v := 0) (pc1 := 6) dX0_init_5 rfl (by decide) ?_
  refine g_puti (pc1 := 9) dX0_init_6 rfl flX0_9 rfl (Nat.le_of_ble_eq_true rfl) rfl rfl ?_
  refine g_aload_n (i := 0) (pc1 := 10) dX0_init_9 rfl rfl rfl ?_
  refine g_iconst (v := 0) (pc1 := 11) dX0_init_10 rfl (by decide) ?_
  refine g_puti (pc1 := 14) dX0_init_11 rfl flX0_15 rfl (Nat.le_of_ble_eq_true rfl) rfl rfl ?_
  refine g_aload_n (i := 0) (pc1 := 15) dX0_init_14 rfl rfl rfl ?_
  refine g_aload_n (i := 1) (pc1 := 16) dX0_init_15 rfl rfl rfl ?_
  refine g_putrF (pc1 := 19) dX0_init_16 rfl flX0_18 rfl (Nat.le_of_ble_eq_true rfl) (fun _ => ⟨rfl, rfl⟩) rfl rfl ?_
  refine g_aload_n (i := 0) (pc1 := 20) dX0_init_19 rfl rfl rfl ?_
  refine g_aload_n (i := 2) (pc1 := 21) dX0_init_20 rfl rfl rfl ?_
  refine g_putrF (pc1 := 24) dX0_init_21 rfl flX0_22 rfl (Nat.le_of_ble_eq_true rfl) (fun _ => ⟨rfl, rfl⟩) rfl rfl ?_
  refine g_aload_n (i := 0) (pc1 := 25) dX0_init_24 rfl rfl rfl ?_
  refine g_aload_n (i := 3) (pc1 := 26) dX0_init_25 rfl rfl rfl ?_
  refine g_putrF (pc1 := 29) dX0_init_26 rfl flX0_26 rfl (Nat.le_of_ble_eq_true rfl) (fun _ => ⟨rfl, rfl⟩) rfl rfl ?_
  refine g_vret dX0_init_29 rfl (Nat.le_of_ble_eq_true rfl) (Nat.le_of_ble_eq_true rfl) ?_
  exact ⟨rfl, rfl⟩
theorem i_told : aRet 3 1 30 mX6_init [.ref 22, .ref 1] [.inr (7, [.ref 1, .ref 4, .ref 8, .ref 12, .ref 18, .ref 21, .null]), .inr (2, [.int 0, .ref 2, .ref 3]), .inl (false, 30, z0), .inl (false, 30, z0), .inr (1, [.ref 1, .ref 5, .ref 6, .ref 7, .int 0, .int 0]), .inl (false, 30, z0), .inl (false, 30, z0), .inl (false, 30, z0), .inr (4, [.ref 1, .ref 4, .int 0, .ref 9, .int 0, .int 0]), .inr (3, [.int 0, .ref 10, .ref 11]), .inl (false, 3000, z0), .inl (false, 3000, z0), .inr (5, [.ref 1, .ref 4, .ref 8, .int 0, .ref 13, .int 0, .ref 14, .ref 17]), .inl (false, 30, z0), .inr (3, [.int 0, .ref 15, .ref 16]), .inl (false, 3000, z0), .inl (false, 3000, z0), .inl (false, 5, z0), .inr (3, [.int 0, .ref 19, .ref 20]), .inl (false, 3000, z0), .inl (false, 3000, z0), .inr (0, [.ref 1, .ref 4, .ref 18, .int 0, .int 0]), .inr (6, [.null, .null])] (fun w g => w = none ∧ g = [.inr (7, [.ref 1, .ref 4, .ref 8, .ref 12, .ref 18, .ref 21, .null]), .inr (2, [.int 0, .ref 2, .ref 3]), .inl (false, 30, z0), .inl (false, 30, z0), .inr (1, [.ref 1, .ref 5, .ref 6, .ref 7, .int 0, .int 0]), .inl (false, 30, z0), .inl (false, 30, z0), .inl (false, 30, z0), .inr (4, [.ref 1, .ref 4, .int 0, .ref 9, .int 0, .int 0]), .inr (3, [.int 0, .ref 10, .ref 11]), .inl (false, 3000, z0), .inl (false, 3000, z0), .inr (5, [.ref 1, .ref 4, .ref 8, .int 0, .ref 13, .int 0, .ref 14, .ref 17]), .inl (false, 30, z0), .inr (3, [.int 0, .ref 15, .ref 16]), .inl (false, 3000, z0), .inl (false, 3000, z0), .inl (false, 5, z0), .inr (3, [.int 0, .ref 19, .ref 20]), .inl (false, 3000, z0), .inl (false, 3000, z0), .inr (0, [.ref 1, .ref 4, .ref 18, .int 0, .int 0]), .inr (6, [.ref 1, .ref 23]), .inl (false, 30, fil 30 (-1) z0)]) := by
  refine aRet.of (by decide) (Nat.le_of_ble_eq_true rfl) (a_ok2 rfl) ?_
  refine g_aload_n (i := 0) (pc1 := 1) dX6_init_0 rfl rfl rfl ?_
  refine g_objInit (pc1 := 4) dX6_init_1 rfl lkX6_3 wO1 wO2 (Nat.le_of_ble_eq_true rfl) (a_ok1 rfl) (a_ok2 rfl) ?_
  refine g_aload_n (i := 0) (pc1 := 5) dX6_init_4 rfl rfl rfl ?_
  refine g_bipush (v := 30) (pc1 := 7) dX6_init_5 rfl (by decide) ?_
  refine g_newi (N := 30) (pc1 := 9) dX6_init_7 rfl wI (by decide) rfl (by decide) rfl rfl (Nat.le_of_ble_eq_true rfl) (Nat.le_of_ble_eq_true rfl) ?_
  refine g_putrF (pc1 := 12) dX6_init_9 rfl flX6_9 rfl (Nat.le_of_ble_eq_true rfl) (fun _ => ⟨rfl, rfl⟩) rfl rfl ?_
  refine g_aload_n (i := 0) (pc1 := 13) dX6_init_12 rfl rfl rfl ?_
  refine g_aload_n (i := 1) (pc1 := 14) dX6_init_13 rfl rfl rfl ?_
  refine g_putrF (pc1 := 17) dX6_init_14 rfl flX6_15 rfl (Nat.le_of_ble_eq_true rfl) (fun _ => ⟨rfl, rfl⟩) rfl rfl ?_
  refine g_aload_n (i := 0) (pc1 := 18) dX6_init_17 rfl rfl rfl ?_
  refine g_get (pc1 := 21) dX6_init_18 rfl flX6_9 rfl rfl ?_
  refine g_iconst (v := (-1)) (pc1 := 22) dX6_init_21 rfl (by decide) ?_
  refine g_S2 (M := mJ7_fill_53178) (pc1 := 25) dX6_init_22 rfl lkX6_19 tmJ7_fill_53178 (c_fill (q := 23) (N := 30) (f := z0) (by decide) rfl (-1)) (Nat.le_of_ble_eq_true rfl) rfl (Nat.le_of_ble_eq_true rfl) (Nat.le_of_ble_eq_true rfl) ?_
  rintro _ _ ⟨rfl, rfl⟩
  show aGo _ 25 _ [] _ _ _
  refine g_vret dX6_init_25 rfl (Nat.le_of_ble_eq_true rfl) (Nat.le_of_ble_eq_true rfl) ?_
  exact ⟨rfl, rfl⟩
theorem i_proof : aRet 4 23 18254 mX7_init [.ref 0] [.inr (7, [.null, .null, .null, .null, .null, .null, .null])] (fun w g => w = none ∧ g = cp (0, z0, z0) (z0, z0, z0, 0, 0) (0, 0, 0) (0, z0, z0) (0, z0, 0, z0) (0, z0, z0) (0, z0, z0) (0, 0) (fil 30 (-1) z0) []) := by
  refine aRet.of (by decide) (Nat.le_of_ble_eq_true rfl) (a_ok2 rfl) ?_
  refine g_aload_n (i := 0) (pc1 := 1) dX7_init_0 rfl rfl rfl ?_
  refine g_objInit (pc1 := 4) dX7_init_1 rfl lkX7_1 wO1 wO2 (Nat.le_of_ble_eq_true rfl) (a_ok1 rfl) (a_ok2 rfl) ?_
  refine g_aload_n (i := 0) (pc1 := 5) dX7_init_4 rfl rfl rfl ?_
  refine g_new (pc1 := 8) dX7_init_5 rfl nwX7_7 rfl rfl (Nat.le_of_ble_eq_true rfl) (Nat.le_of_ble_eq_true rfl) ?_
  refine g_dup (pc1 := 9) dX7_init_8 rfl rfl ?_
  refine g_IN0 (M := mX2_init) (pc1 := 12) dX7_init_9 rfl ⟨rfl, lnX7_9⟩ tmX2_init (i_graph) (Nat.le_of_ble_eq_true rfl) rfl rfl rfl (Nat.le_of_ble_eq_true rfl) (Nat.le_of_ble_eq_true rfl) ?_
  rintro _ _ ⟨rfl, rfl⟩
  show aGo _ 12 _ [.ref 1, .ref 0] _ _ _
  refine g_putrF (pc1 := 15) dX7_init_12 rfl flX7_10 rfl (Nat.le_of_ble_eq_true rfl) (fun _ => ⟨rfl, rfl⟩) rfl rfl ?_
  refine aGo.eq (h' := [.inr (7, [.ref 1, .null, .null, .null, .null, .null, .null]), .inr (2, [.int 0, .ref 2, .ref 3]), .inl (false, 30, z0), .inl (false, 30, z0)]) ?_ rfl rfl rfl
  refine g_aload_n (i := 0) (pc1 := 16) dX7_init_15 rfl rfl rfl ?_
  refine g_new (pc1 := 19) dX7_init_16 rfl nwX7_16 rfl rfl (Nat.le_of_ble_eq_true rfl) (Nat.le_of_ble_eq_true rfl) ?_
  refine g_dup (pc1 := 20) dX7_init_19 rfl rfl ?_
  refine g_aload_n (i := 0) (pc1 := 21) dX7_init_20 rfl rfl rfl ?_
  refine g_get (pc1 := 24) dX7_init_21 rfl flX7_10 rfl rfl ?_
  refine g_I1 (M := mX1_init) (pc1 := 27) dX7_init_24 rfl lkX7_18 tmX1_init (i_col) (Nat.le_of_ble_eq_true rfl) rfl rfl rfl (Nat.le_of_ble_eq_true rfl) (Nat.le_of_ble_eq_true rfl) ?_
  rintro _ _ ⟨rfl, rfl⟩
  show aGo _ 27 _ [.ref 4, .ref 0] _ _ _
  refine g_putrF (pc1 := 30) dX7_init_27 rfl flX7_21 rfl (Nat.le_of_ble_eq_true rfl) (fun _ => ⟨rfl, rfl⟩) rfl rfl ?_
  refine aGo.eq (h' := [.inr (7, [.ref 1, .ref 4, .null, .null, .null, .null, .null]), .inr (2, [.int 0, .ref 2, .ref 3]), .inl (false, 30, z0), .inl (false, 30, z0), .inr (1, [.ref 1, .ref 5, .ref 6, .ref 7, .int 0, .int 0]), .inl (false, 30, z0), .inl (false, 30, z0), .inl (false, 30, z0)]) ?_ rfl rfl rfl
  refine g_aload_n (i := 0) (pc1 := 31) dX7_init_30 rfl rfl rfl ?_
  refine g_new (pc1 := 34) dX7_init_31 rfl nwX7_25 rfl rfl (Nat.le_of_ble_eq_true rfl) (Nat.le_of_ble_eq_true rfl) ?_
  refine g_dup (pc1 := 35) dX7_init_34 rfl rfl ?_
  refine g_aload_n (i := 0) (pc1 := 36) dX7_init_35 rfl rfl rfl ?_
  refine g_get (pc1 := 39) dX7_init_36 rfl flX7_10 rfl rfl ?_
  refine g_aload_n (i := 0) (pc1 := 40) dX7_init_39 rfl rfl rfl ?_
  refine g_get (pc1 := 43) dX7_init_40 rfl flX7_21 rfl rfl ?_
  refine g_I2 (M := mX4_init) (pc1 := 46) dX7_init_43 rfl lkX7_27 tmX4_init (i_search) (Nat.le_of_ble_eq_true rfl) rfl rfl rfl (Nat.le_of_ble_eq_true rfl) (Nat.le_of_ble_eq_true rfl) ?_
  rintro _ _ ⟨rfl, rfl⟩
  show aGo _ 46 _ [.ref 8, .ref 0] _ _ _
  refine g_putrF (pc1 := 49) dX7_init_46 rfl flX7_30 rfl (Nat.le_of_ble_eq_true rfl) (fun _ => ⟨rfl, rfl⟩) rfl rfl ?_
  refine aGo.eq (h' := [.inr (7, [.ref 1, .ref 4, .ref 8, .null, .null, .null, .null]), .inr (2, [.int 0, .ref 2, .ref 3]), .inl (false, 30, z0), .inl (false, 30, z0), .inr (1, [.ref 1, .ref 5, .ref 6, .ref 7, .int 0, .int 0]), .inl (false, 30, z0), .inl (false, 30, z0), .inl (false, 30, z0), .inr (4, [.ref 1, .ref 4, .int 0, .ref 9, .int 0, .int 0]), .inr (3, [.int 0, .ref 10, .ref 11]), .inl (false, 3000, z0), .inl (false, 3000, z0)]) ?_ rfl rfl rfl
  refine g_aload_n (i := 0) (pc1 := 50) dX7_init_49 rfl rfl rfl ?_
  refine g_new (pc1 := 53) dX7_init_50 rfl nwX7_34 rfl rfl (Nat.le_of_ble_eq_true rfl) (Nat.le_of_ble_eq_true rfl) ?_
  refine g_dup (pc1 := 54) dX7_init_53 rfl rfl ?_
  refine g_aload_n (i := 0) (pc1 := 55) dX7_init_54 rfl rfl rfl ?_
  refine g_get (pc1 := 58) dX7_init_55 rfl flX7_10 rfl rfl ?_
  refine g_aload_n (i := 0) (pc1 := 59) dX7_init_58 rfl rfl rfl ?_
  refine g_get (pc1 := 62) dX7_init_59 rfl flX7_21 rfl rfl ?_
  refine g_aload_n (i := 0) (pc1 := 63) dX7_init_62 rfl rfl rfl ?_
  refine g_get (pc1 := 66) dX7_init_63 rfl flX7_30 rfl rfl ?_
  refine g_I3 (M := mX5_init) (pc1 := 69) dX7_init_66 rfl lkX7_36 tmX5_init (i_sol) (Nat.le_of_ble_eq_true rfl) rfl rfl rfl (Nat.le_of_ble_eq_true rfl) (Nat.le_of_ble_eq_true rfl) ?_
  rintro _ _ ⟨rfl, rfl⟩
  show aGo _ 69 _ [.ref 12, .ref 0] _ _ _
  refine g_putrF (pc1 := 72) dX7_init_69 rfl flX7_39 rfl (Nat.le_of_ble_eq_true rfl) (fun _ => ⟨rfl, rfl⟩) rfl rfl ?_
  refine aGo.eq (h' := [.inr (7, [.ref 1, .ref 4, .ref 8, .ref 12, .null, .null, .null]), .inr (2, [.int 0, .ref 2, .ref 3]), .inl (false, 30, z0), .inl (false, 30, z0), .inr (1, [.ref 1, .ref 5, .ref 6, .ref 7, .int 0, .int 0]), .inl (false, 30, z0), .inl (false, 30, z0), .inl (false, 30, z0), .inr (4, [.ref 1, .ref 4, .int 0, .ref 9, .int 0, .int 0]), .inr (3, [.int 0, .ref 10, .ref 11]), .inl (false, 3000, z0), .inl (false, 3000, z0), .inr (5, [.ref 1, .ref 4, .ref 8, .int 0, .ref 13, .int 0, .ref 14, .ref 17]), .inl (false, 30, z0), .inr (3, [.int 0, .ref 15, .ref 16]), .inl (false, 3000, z0), .inl (false, 3000, z0), .inl (false, 5, z0)]) ?_ rfl rfl rfl
  refine g_aload_n (i := 0) (pc1 := 73) dX7_init_72 rfl rfl rfl ?_
  refine g_new (pc1 := 76) dX7_init_73 rfl nwX7_43 rfl rfl (Nat.le_of_ble_eq_true rfl) (Nat.le_of_ble_eq_true rfl) ?_
  refine g_dup (pc1 := 77) dX7_init_76 rfl rfl ?_
  refine g_IN0 (M := mX3_init) (pc1 := 80) dX7_init_77 rfl ⟨rfl, lnX7_45⟩ tmX3_init (i_log18) (Nat.le_of_ble_eq_true rfl) rfl rfl rfl (Nat.le_of_ble_eq_true rfl) (Nat.le_of_ble_eq_true rfl) ?_
  rintro _ _ ⟨rfl, rfl⟩
  show aGo _ 80 _ [.ref 18, .ref 0] _ _ _
  refine g_putrF (pc1 := 83) dX7_init_80 rfl flX7_46 rfl (Nat.le_of_ble_eq_true rfl) (fun _ => ⟨rfl, rfl⟩) rfl rfl ?_
  refine aGo.eq (h' := [.inr (7, [.ref 1, .ref 4, .ref 8, .ref 12, .ref 18, .null, .null]), .inr (2, [.int 0, .ref 2, .ref 3]), .inl (false, 30, z0), .inl (false, 30, z0), .inr (1, [.ref 1, .ref 5, .ref 6, .ref 7, .int 0, .int 0]), .inl (false, 30, z0), .inl (false, 30, z0), .inl (false, 30, z0), .inr (4, [.ref 1, .ref 4, .int 0, .ref 9, .int 0, .int 0]), .inr (3, [.int 0, .ref 10, .ref 11]), .inl (false, 3000, z0), .inl (false, 3000, z0), .inr (5, [.ref 1, .ref 4, .ref 8, .int 0, .ref 13, .int 0, .ref 14, .ref 17]), .inl (false, 30, z0), .inr (3, [.int 0, .ref 15, .ref 16]), .inl (false, 3000, z0), .inl (false, 3000, z0), .inl (false, 5, z0), .inr (3, [.int 0, .ref 19, .ref 20]), .inl (false, 3000, z0), .inl (false, 3000, z0)]) ?_ rfl rfl rfl
  refine g_aload_n (i := 0) (pc1 := 84) dX7_init_83 rfl rfl rfl ?_
  refine g_new (pc1 := 87) dX7_init_84 rfl nwX7_50 rfl rfl (Nat.le_of_ble_eq_true rfl) (Nat.le_of_ble_eq_true rfl) ?_
  refine g_dup (pc1 := 88) dX7_init_87 rfl rfl ?_
  refine g_aload_n (i := 0) (pc1 := 89) dX7_init_88 rfl rfl rfl ?_
  refine g_get (pc1 := 92) dX7_init_89 rfl flX7_10 rfl rfl ?_
  refine g_aload_n (i := 0) (pc1 := 93) dX7_init_92 rfl rfl rfl ?_
  refine g_get (pc1 := 96) dX7_init_93 rfl flX7_21 rfl rfl ?_
  refine g_aload_n (i := 0) (pc1 := 97) dX7_init_96 rfl rfl rfl ?_
  refine g_get (pc1 := 100) dX7_init_97 rfl flX7_46 rfl rfl ?_
  refine g_I3 (M := mX0_init) (pc1 := 103) dX7_init_100 rfl lkX7_52 tmX0_init (i_chk) (Nat.le_of_ble_eq_true rfl) rfl rfl rfl (Nat.le_of_ble_eq_true rfl) (Nat.le_of_ble_eq_true rfl) ?_
  rintro _ _ ⟨rfl, rfl⟩
  show aGo _ 103 _ [.ref 21, .ref 0] _ _ _
  refine g_putrF (pc1 := 106) dX7_init_103 rfl flX7_55 rfl (Nat.le_of_ble_eq_true rfl) (fun _ => ⟨rfl, rfl⟩) rfl rfl ?_
  refine aGo.eq (h' := [.inr (7, [.ref 1, .ref 4, .ref 8, .ref 12, .ref 18, .ref 21, .null]), .inr (2, [.int 0, .ref 2, .ref 3]), .inl (false, 30, z0), .inl (false, 30, z0), .inr (1, [.ref 1, .ref 5, .ref 6, .ref 7, .int 0, .int 0]), .inl (false, 30, z0), .inl (false, 30, z0), .inl (false, 30, z0), .inr (4, [.ref 1, .ref 4, .int 0, .ref 9, .int 0, .int 0]), .inr (3, [.int 0, .ref 10, .ref 11]), .inl (false, 3000, z0), .inl (false, 3000, z0), .inr (5, [.ref 1, .ref 4, .ref 8, .int 0, .ref 13, .int 0, .ref 14, .ref 17]), .inl (false, 30, z0), .inr (3, [.int 0, .ref 15, .ref 16]), .inl (false, 3000, z0), .inl (false, 3000, z0), .inl (false, 5, z0), .inr (3, [.int 0, .ref 19, .ref 20]), .inl (false, 3000, z0), .inl (false, 3000, z0), .inr (0, [.ref 1, .ref 4, .ref 18, .int 0, .int 0])]) ?_ rfl rfl rfl
  refine g_aload_n (i := 0) (pc1 := 107) dX7_init_106 rfl rfl rfl ?_
  refine g_new (pc1 := 110) dX7_init_107 rfl nwX7_59 rfl rfl (Nat.le_of_ble_eq_true rfl) (Nat.le_of_ble_eq_true rfl) ?_
  refine g_dup (pc1 := 111) dX7_init_110 rfl rfl ?_
  refine g_aload_n (i := 0) (pc1 := 112) dX7_init_111 rfl rfl rfl ?_
  refine g_get (pc1 := 115) dX7_init_112 rfl flX7_10 rfl rfl ?_
  refine g_I1 (M := mX6_init) (pc1 := 118) dX7_init_115 rfl lkX7_61 tmX6_init (i_told) (Nat.le_of_ble_eq_true rfl) rfl rfl rfl (Nat.le_of_ble_eq_true rfl) (Nat.le_of_ble_eq_true rfl) ?_
  rintro _ _ ⟨rfl, rfl⟩
  show aGo _ 118 _ [.ref 22, .ref 0] _ _ _
  refine g_putrF (pc1 := 121) dX7_init_118 rfl flX7_62 rfl (Nat.le_of_ble_eq_true rfl) (fun _ => ⟨rfl, rfl⟩) rfl rfl ?_
  refine aGo.eq (h' := [.inr (7, [.ref 1, .ref 4, .ref 8, .ref 12, .ref 18, .ref 21, .ref 22]), .inr (2, [.int 0, .ref 2, .ref 3]), .inl (false, 30, z0), .inl (false, 30, z0), .inr (1, [.ref 1, .ref 5, .ref 6, .ref 7, .int 0, .int 0]), .inl (false, 30, z0), .inl (false, 30, z0), .inl (false, 30, z0), .inr (4, [.ref 1, .ref 4, .int 0, .ref 9, .int 0, .int 0]), .inr (3, [.int 0, .ref 10, .ref 11]), .inl (false, 3000, z0), .inl (false, 3000, z0), .inr (5, [.ref 1, .ref 4, .ref 8, .int 0, .ref 13, .int 0, .ref 14, .ref 17]), .inl (false, 30, z0), .inr (3, [.int 0, .ref 15, .ref 16]), .inl (false, 3000, z0), .inl (false, 3000, z0), .inl (false, 5, z0), .inr (3, [.int 0, .ref 19, .ref 20]), .inl (false, 3000, z0), .inl (false, 3000, z0), .inr (0, [.ref 1, .ref 4, .ref 18, .int 0, .int 0]), .inr (6, [.ref 1, .ref 23]), .inl (false, 30, fil 30 (-1) z0)]) ?_ rfl rfl rfl
  refine g_vret dX7_init_121 rfl (Nat.le_of_ble_eq_true rfl) (Nat.le_of_ble_eq_true rfl) ?_
  exact ⟨rfl, rfl⟩
theorem i_ref (x : Nat → aC) : aRet 1 13 20018 mX8_init [.ref 24] [x 0, x 1, x 2, x 3, x 4, x 5, x 6, x 7, x 8, x 9, x 10, x 11, x 12, x 13, x 14, x 15, x 16, x 17, x 18, x 19, x 20, x 21, x 22, x 23, .inr (8, [.int 0, .null, .null, .null, .null, .null, .null, .null, .null, .int 0, .null, .int 0, .null, .int 0, .null, .int 0, .int 0, .null, .null])] (fun w g => w = none ∧ g = rp x (0, z0, z0) (z0, z0) (z0, z0, z0, 0) (z0, 0) (z0, 0) (z0, 0) (0, z0, z0) (fil 30 (-1) z0)) := by
  refine aRet.of (by decide) (Nat.le_of_ble_eq_true rfl) (a_ok2 rfl) ?_
  refine g_aload_n (i := 0) (pc1 := 1) dX8_init_0 rfl rfl rfl ?_
  refine g_objInit (pc1 := 4) dX8_init_1 rfl lkX8_1 wO1 wO2 (Nat.le_of_ble_eq_true rfl) (a_ok1 rfl) (a_ok2 rfl) ?_
  refine g_aload_n (i := 0) (pc1 := 5) dX8_init_4 rfl rfl rfl ?_
  refine g_sipush (v := 900) (pc1 := 8) dX8_init_5 rfl (by decide) ?_
  refine g_newz (N := 900) (pc1 := 10) dX8_init_8 rfl wZ (by decide) rfl (by decide) rfl rfl (Nat.le_of_ble_eq_true rfl) (Nat.le_of_ble_eq_true rfl) ?_
  refine g_putrF (pc1 := 13) dX8_init_10 rfl flX8_7 rfl (Nat.le_of_ble_eq_true rfl) (fun _ => ⟨rfl, rfl⟩) rfl rfl ?_
  refine g_aload_n (i := 0) (pc1 := 14) dX8_init_13 rfl rfl rfl ?_
  refine g_sipush (v := 900) (pc1 := 17) dX8_init_14 rfl (by decide) ?_
  refine g_newz (N := 900) (pc1 := 19) dX8_init_17 rfl wZ (by decide) rfl (by decide) rfl rfl (Nat.le_of_ble_eq_true rfl) (Nat.le_of_ble_eq_true rfl) ?_
  refine g_putrF (pc1 := 22) dX8_init_19 rfl flX8_13 rfl (Nat.le_of_ble_eq_true rfl) (fun _ => ⟨rfl, rfl⟩) rfl rfl ?_
  refine g_aload_n (i := 0) (pc1 := 23) dX8_init_22 rfl rfl rfl ?_
  refine g_bipush (v := 30) (pc1 := 25) dX8_init_23 rfl (by decide) ?_
  refine g_newi (N := 30) (pc1 := 27) dX8_init_25 rfl wI (by decide) rfl (by decide) rfl rfl (Nat.le_of_ble_eq_true rfl) (Nat.le_of_ble_eq_true rfl) ?_
  refine g_putrF (pc1 := 30) dX8_init_27 rfl flX8_16 rfl (Nat.le_of_ble_eq_true rfl) (fun _ => ⟨rfl, rfl⟩) rfl rfl ?_
  refine g_aload_n (i := 0) (pc1 := 31) dX8_init_30 rfl rfl rfl ?_
  refine g_bipush (v := 30) (pc1 := 33) dX8_init_31 rfl (by decide) ?_
  refine g_newi (N := 30) (pc1 := 35) dX8_init_33 rfl wI (by decide) rfl (by decide) rfl rfl (Nat.le_of_ble_eq_true rfl) (Nat.le_of_ble_eq_true rfl) ?_
  refine g_putrF (pc1 := 38) dX8_init_35 rfl flX8_20 rfl (Nat.le_of_ble_eq_true rfl) (fun _ => ⟨rfl, rfl⟩) rfl rfl ?_
  refine aGo.eq (h' := [x 0, x 1, x 2, x 3, x 4, x 5, x 6, x 7, x 8, x 9, x 10, x 11, x 12, x 13, x 14, x 15, x 16, x 17, x 18, x 19, x 20, x 21, x 22, x 23, .inr (8, [.int 0, .ref 25, .ref 26, .ref 27, .ref 28, .null, .null, .null, .null, .int 0, .null, .int 0, .null, .int 0, .null, .int 0, .int 0, .null, .null]), .inl (true, 900, z0), .inl (true, 900, z0), .inl (false, 30, z0), .inl (false, 30, z0)]) ?_ rfl rfl rfl
  refine g_aload_n (i := 0) (pc1 := 39) dX8_init_38 rfl rfl rfl ?_
  refine g_bipush (v := 30) (pc1 := 41) dX8_init_39 rfl (by decide) ?_
  refine g_newi (N := 30) (pc1 := 43) dX8_init_41 rfl wI (by decide) rfl (by decide) rfl rfl (Nat.le_of_ble_eq_true rfl) (Nat.le_of_ble_eq_true rfl) ?_
  refine g_putrF (pc1 := 46) dX8_init_43 rfl flX8_23 rfl (Nat.le_of_ble_eq_true rfl) (fun _ => ⟨rfl, rfl⟩) rfl rfl ?_
  refine g_aload_n (i := 0) (pc1 := 47) dX8_init_46 rfl rfl rfl ?_
  refine g_bipush (v := 31) (pc1 := 49) dX8_init_47 rfl (by decide) ?_
  refine g_newi (N := 31) (pc1 := 51) dX8_init_49 rfl wI (by decide) rfl (by decide) rfl rfl (Nat.le_of_ble_eq_true rfl) (Nat.le_of_ble_eq_true rfl) ?_
  refine g_putrF (pc1 := 54) dX8_init_51 rfl flX8_26 rfl (Nat.le_of_ble_eq_true rfl) (fun _ => ⟨rfl, rfl⟩) rfl rfl ?_
  refine g_aload_n (i := 0) (pc1 := 55) dX8_init_54 rfl rfl rfl ?_
  refine g_bipush (v := 31) (pc1 := 57) dX8_init_55 rfl (by decide) ?_
  refine g_newi (N := 31) (pc1 := 59) dX8_init_57 rfl wI (by decide) rfl (by decide) rfl rfl (Nat.le_of_ble_eq_true rfl) (Nat.le_of_ble_eq_true rfl) ?_
  refine g_putrF (pc1 := 62) dX8_init_59 rfl flX8_29 rfl (Nat.le_of_ble_eq_true rfl) (fun _ => ⟨rfl, rfl⟩) rfl rfl ?_
  refine g_aload_n (i := 0) (pc1 := 63) dX8_init_62 rfl rfl rfl ?_
  refine g_bipush (v := 31) (pc1 := 65) dX8_init_63 rfl (by decide) ?_
  refine g_newi (N := 31) (pc1 := 67) dX8_init_65 rfl wI (by decide) rfl (by decide) rfl rfl (Nat.le_of_ble_eq_true rfl) (Nat.le_of_ble_eq_true rfl) ?_
  refine g_putrF (pc1 := 70) dX8_init_67 rfl flX8_32 rfl (Nat.le_of_ble_eq_true rfl) (fun _ => ⟨rfl, rfl⟩) rfl rfl ?_
  refine aGo.eq (h' := [x 0, x 1, x 2, x 3, x 4, x 5, x 6, x 7, x 8, x 9, x 10, x 11, x 12, x 13, x 14, x 15, x 16, x 17, x 18, x 19, x 20, x 21, x 22, x 23, .inr (8, [.int 0, .ref 25, .ref 26, .ref 27, .ref 28, .ref 29, .ref 30, .ref 31, .ref 32, .int 0, .null, .int 0, .null, .int 0, .null, .int 0, .int 0, .null, .null]), .inl (true, 900, z0), .inl (true, 900, z0), .inl (false, 30, z0), .inl (false, 30, z0), .inl (false, 30, z0), .inl (false, 31, z0), .inl (false, 31, z0), .inl (false, 31, z0)]) ?_ rfl rfl rfl
  refine g_aload_n (i := 0) (pc1 := 71) dX8_init_70 rfl rfl rfl ?_
  refine g_sipush (v := 6000) (pc1 := 74) dX8_init_71 rfl (by decide) ?_
  refine g_newi (N := 6000) (pc1 := 76) dX8_init_74 rfl wI (by decide) rfl (by decide) rfl rfl (Nat.le_of_ble_eq_true rfl) (Nat.le_of_ble_eq_true rfl) ?_
  refine g_putrF (pc1 := 79) dX8_init_76 rfl flX8_35 rfl (Nat.le_of_ble_eq_true rfl) (fun _ => ⟨rfl, rfl⟩) rfl rfl ?_
  refine g_aload_n (i := 0) (pc1 := 80) dX8_init_79 rfl rfl rfl ?_
  refine g_sipush (v := 6000) (pc1 := 83) dX8_init_80 rfl (by decide) ?_
  refine g_newi (N := 6000) (pc1 := 85) dX8_init_83 rfl wI (by decide) rfl (by decide) rfl rfl (Nat.le_of_ble_eq_true rfl) (Nat.le_of_ble_eq_true rfl) ?_
  refine g_putrF (pc1 := 88) dX8_init_85 rfl flX8_38 rfl (Nat.le_of_ble_eq_true rfl) (fun _ => ⟨rfl, rfl⟩) rfl rfl ?_
  refine g_aload_n (i := 0) (pc1 := 89) dX8_init_88 rfl rfl rfl ?_
  refine g_sipush (v := 6000) (pc1 := 92) dX8_init_89 rfl (by decide) ?_
  refine g_newi (N := 6000) (pc1 := 94) dX8_init_92 rfl wI (by decide) rfl (by decide) rfl rfl (Nat.le_of_ble_eq_true rfl) (Nat.le_of_ble_eq_true rfl) ?_
  refine g_putrF (pc1 := 97) dX8_init_94 rfl flX8_41 rfl (Nat.le_of_ble_eq_true rfl) (fun _ => ⟨rfl, rfl⟩) rfl rfl ?_
  refine g_aload_n (i := 0) (pc1 := 98) dX8_init_97 rfl rfl rfl ?_
  refine g_iconst (v := 5) (pc1 := 99) dX8_init_98 rfl (by decide) ?_
  refine g_newi (N := 5) (pc1 := 101) dX8_init_99 rfl wI (by decide) rfl (by decide) rfl rfl (Nat.le_of_ble_eq_true rfl) (Nat.le_of_ble_eq_true rfl) ?_
  refine g_putrF (pc1 := 104) dX8_init_101 rfl flX8_44 rfl (Nat.le_of_ble_eq_true rfl) (fun _ => ⟨rfl, rfl⟩) rfl rfl ?_
  refine aGo.eq (h' := [x 0, x 1, x 2, x 3, x 4, x 5, x 6, x 7, x 8, x 9, x 10, x 11, x 12, x 13, x 14, x 15, x 16, x 17, x 18, x 19, x 20, x 21, x 22, x 23, .inr (8, [.int 0, .ref 25, .ref 26, .ref 27, .ref 28, .ref 29, .ref 30, .ref 31, .ref 32, .int 0, .ref 33, .int 0, .ref 34, .int 0, .ref 35, .int 0, .int 0, .ref 36, .null]), .inl (true, 900, z0), .inl (true, 900, z0), .inl (false, 30, z0), .inl (false, 30, z0), .inl (false, 30, z0), .inl (false, 31, z0), .inl (false, 31, z0), .inl (false, 31, z0), .inl (false, 6000, z0), .inl (false, 6000, z0), .inl (false, 6000, z0), .inl (false, 5, z0)]) ?_ rfl rfl rfl
  refine g_aload_n (i := 0) (pc1 := 105) dX8_init_104 rfl rfl rfl ?_
  refine g_bipush (v := 30) (pc1 := 107) dX8_init_105 rfl (by decide) ?_
  refine g_newz (N := 30) (pc1 := 109) dX8_init_107 rfl wZ (by decide) rfl (by decide) rfl rfl (Nat.le_of_ble_eq_true rfl) (Nat.le_of_ble_eq_true rfl) ?_
  refine g_putrF (pc1 := 112) dX8_init_109 rfl flX8_47 rfl (Nat.le_of_ble_eq_true rfl) (fun _ => ⟨rfl, rfl⟩) rfl rfl ?_
  refine aGo.eq (h' := [x 0, x 1, x 2, x 3, x 4, x 5, x 6, x 7, x 8, x 9, x 10, x 11, x 12, x 13, x 14, x 15, x 16, x 17, x 18, x 19, x 20, x 21, x 22, x 23, .inr (8, [.int 0, .ref 25, .ref 26, .ref 27, .ref 28, .ref 29, .ref 30, .ref 31, .ref 32, .int 0, .ref 33, .int 0, .ref 34, .int 0, .ref 35, .int 0, .int 0, .ref 36, .ref 37]), .inl (true, 900, z0), .inl (true, 900, z0), .inl (false, 30, z0), .inl (false, 30, z0), .inl (false, 30, z0), .inl (false, 31, z0), .inl (false, 31, z0), .inl (false, 31, z0), .inl (false, 6000, z0), .inl (false, 6000, z0), .inl (false, 6000, z0), .inl (false, 5, z0), .inl (true, 30, z0)]) ?_ rfl rfl rfl
  refine g_iconst (v := 0) (pc1 := 113) dX8_init_112 rfl (by decide) ?_
  refine g_istore_n (i := 1) (pc1 := 114) dX8_init_113 rfl rfl (Nat.le_of_ble_eq_true rfl) ?_
  refine aGo.eq (ls' := [.ref 24, .int (nI 0)]) (h' := rp x (0, z0, z0) (z0, z0) (z0, z0, z0, 0) (z0, 0) (z0, 0) (z0, 0) (0, z0, z0) (fil 0 (-1) z0)) ?_ rfl rfl (by
    have : fil 0 (-1) z0 = z0 := by funext i; simp [fil]
    rw [this]; rfl)
  show aGo _ 114 _ _ _ 13 20018
  refine down0 (P := fun i => aGo _ 114 [.ref 24, .int (nI i)] [] (rp x (0, z0, z0) (z0, z0) (z0, z0, z0, 0) (z0, 0) (z0, 0) (z0, 0) (0, z0, z0) (fil i (-1) z0)) 13 20018) 30 ?_ ?_
  · refine g_iload_n (i := 1) (pc1 := 115) dX8_init_114 rfl rfl rfl ?_
    refine g_bipush (v := 30) (pc1 := 117) dX8_init_115 rfl (by decide) ?_
    refine g_icmp_ge (pc1 := 120) (tgt := 133) dX8_init_117 rfl (by decide) (fun _ => ?_) (fun hbr9 => absurd (by decide) hbr9)
    refine g_vret dX8_init_133 rfl (Nat.le_of_ble_eq_true rfl) (Nat.le_of_ble_eq_true rfl) ?_
    exact ⟨rfl, rfl⟩
  · intro i hi ih
    refine g_iload_n (i := 1) (pc1 := 115) dX8_init_114 rfl rfl rfl ?_
    refine g_bipush (v := 30) (pc1 := 117) dX8_init_115 rfl (by decide) ?_
    refine g_icmp_ge (pc1 := 120) (tgt := 133) dX8_init_117 rfl (by decide) (fun hbr9 => absurd hbr9 (fun c => absurd ((nI_leI (a := 30) (b := i) (by omega) (by omega)).mp c) (by omega))) (fun _ => ?_)
    refine g_aload_n (i := 0) (pc1 := 121) dX8_init_120 rfl rfl rfl ?_
    refine g_get (pc1 := 124) dX8_init_121 rfl flX8_23 rfl rfl ?_
    refine g_iload_n (i := 1) (pc1 := 125) dX8_init_124 rfl rfl rfl ?_
    refine g_iconst (v := (-1)) (pc1 := 126) dX8_init_125 rfl (by decide) ?_
    refine g_iastJ (pc1 := 127) dX8_init_126 rfl rfl rfl hi (by decide) ?_
    refine g_iinc (pc1 := 130) dX8_init_127 rfl rfl rfl ?_
    refine g_goto (tgt := 114) dX8_init_130 (by decide) ?_
    refine aGo.eq ih ?_ rfl ?_
    · show [Value.ref 24, .int (nI i + Int32.ofInt 1)] = _
      rw [show nI i + Int32.ofInt 1 = nI (i + 1) from nI_1 i]
    · have e : upd (fil i (-1) z0) i (-1) = fil (i + 1) (-1) z0 := by
        funext k
        simp only [fil, upd]
        by_cases e1 : k = i
        · subst e1; simp
        · by_cases e2 : k < i
          · simp [e1, e2, show k < i + 1 by omega]
          · simp [e1, e2, show ¬ k < i + 1 by omega]
      rw [← e]
      rfl
