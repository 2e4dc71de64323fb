/-! ===== the class's smallest methods ===== -/
section
variable (G : tG) (K : tK) (S : tS) (L1 : tL) (U : tU) (L2 L3 : tL) (C : Int32 × Int32) (P : fI) (r : List aC)
theorem c_contains {h : List aC} (x : Int32) {j : Nat} (hj : j < 32) : aRet 0 0 0 mX7_contains [.int x, .int (nI j)] h (fun v g => v = some (.int (bI (bt x j))) ∧ g = h) := by
  refine aRet.of (by decide) (Nat.le_of_ble_eq_true rfl) (a_ok2 rfl) ?_
  refine g_iload_n (i := 0) (pc1 := 1) dX7_contains_0 rfl rfl rfl ?_
  refine g_iload_n (i := 1) (pc1 := 2) dX7_contains_1 rfl rfl rfl ?_
  refine g_ishr (pc1 := 3) dX7_contains_2 rfl ?_
  refine g_iconst (v := 1) (pc1 := 4) dX7_contains_3 rfl (by decide) ?_
  refine g_iand (pc1 := 5) dX7_contains_4 rfl ?_
  rw [bt_test x hj]
  refine g_if_eq (pc1 := 8) (tgt := 12) dX7_contains_5 rfl (by decide) (fun c => ?_) (fun c => ?_)
  · refine g_iconst (v := 0) (pc1 := 13) dX7_contains_12 rfl (by decide) ?_
    rw [bI_eq0] at c
    refine g_iret dX7_contains_13 rfl rfl (Nat.le_of_ble_eq_true rfl) (Nat.le_of_ble_eq_true rfl) ?_
    exact ⟨by rw [c]; rfl, rfl⟩
  · refine g_iconst (v := 1) (pc1 := 9) dX7_contains_8 rfl (by decide) ?_
    refine g_goto (tgt := 13) dX7_contains_9 (by decide) ?_
    rw [bI_ne0] at c
    refine g_iret dX7_contains_13 rfl rfl (Nat.le_of_ble_eq_true rfl) (Nat.le_of_ble_eq_true rfl) ?_
    exact ⟨by rw [c]; rfl, rfl⟩
theorem c_isVertex (n : Nat) (hn : n ≤ 30) (hG : G.1 = nI n) (v : Int32) : aRet 0 0 0 mX2_isVertex [.ref 1, .int v] (cp G K S L1 U L2 L3 C P r) (fun w g => w = some (.int (bI (decide (0 ≤ v ∧ v < nI n)))) ∧ g = cp G K S L1 U L2 L3 C P r) := by
  refine aRet.of (by decide) (Nat.le_of_ble_eq_true rfl) (a_ok2 rfl) ?_
  refine g_iload_n (i := 1) (pc1 := 1) dX2_isVertex_0 rfl rfl rfl ?_
  refine g_if_lt (pc1 := 4) (tgt := 16) dX2_isVertex_1 rfl (by decide) (fun c => ?_) (fun c => ?_)
  · refine g_iconst (v := 0) (pc1 := 17) dX2_isVertex_16 rfl (by decide) ?_
    refine g_iret dX2_isVertex_17 rfl rfl (Nat.le_of_ble_eq_true rfl) (Nat.le_of_ble_eq_true rfl) ?_
    exact ⟨by rw [decide_eq_false (by intro h; exact absurd c (Int32.not_lt.mpr h.1))]; rfl, rfl⟩
  · refine g_iload_n (i := 1) (pc1 := 5) dX2_isVertex_4 rfl rfl rfl ?_
    refine g_aload_n (i := 0) (pc1 := 6) dX2_isVertex_5 rfl rfl rfl ?_
    refine g_get (pc1 := 9) dX2_isVertex_6 rfl flX2_9 rfl rfl ?_
    rw [hG]
    refine g_icmp_ge (pc1 := 12) (tgt := 16) dX2_isVertex_9 rfl (by decide) (fun c2 => ?_) (fun c2 => ?_)
    · refine g_iconst (v := 0) (pc1 := 17) dX2_isVertex_16 rfl (by decide) ?_
      refine g_iret dX2_isVertex_17 rfl rfl (Nat.le_of_ble_eq_true rfl) (Nat.le_of_ble_eq_true rfl) ?_
      exact ⟨by rw [decide_eq_false (by intro h; exact absurd h.2 (Int32.not_lt.mpr c2))]; rfl, rfl⟩
    · refine g_iconst (v := 1) (pc1 := 13) dX2_isVertex_12 rfl (by decide) ?_
      refine g_goto (tgt := 17) dX2_isVertex_13 (by decide) ?_
      refine g_iret dX2_isVertex_17 rfl rfl (Nat.le_of_ble_eq_true rfl) (Nat.le_of_ble_eq_true rfl) ?_
      exact ⟨by rw [decide_eq_true ⟨Int32.not_lt.mp c, Int32.not_le.mp c2⟩]; rfl, rfl⟩
end
