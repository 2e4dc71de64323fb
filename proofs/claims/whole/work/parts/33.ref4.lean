/-! ===== the reference: cliques and the first colouring ===== -/
theorem cnt_ins {p : Nat → Bool} {v : Nat} (hp : p v = false) : ∀ {m : Nat}, v < m → cnt (fun j => p j || decide (j = v)) m = cnt p m + 1
  | 0, h => absurd h (Nat.not_lt_zero v)
  | m + 1, h => by
    unfold cnt
    by_cases hv : v = m
    · subst hv
      have e1 : cnt (fun j => p j || decide (j = v)) v = cnt p v := cnt_congr fun i hi => by simp [show i ≠ v by omega]
      rw [e1, hp]; simp
    · rw [cnt_ins hp (m := m) (by omega)]
      simp only [show ¬ m = v from fun e => hv e.symm, decide_false, Bool.or_false]
      omega
section
variable {n : Nat} {A : Nat → Nat → Bool} {f : Nat → Nat} {col : tCol}
theorem clq_T : ∀ (i w : Nat), (clq A f n (brP n col) i).1 w = true → w < n
  | 0, w, h => by cases h
  | i + 1, w, h => by
    unfold clq at h
    split at h
    · exact clq_T i w h
    · next v hv =>
      simp only [Bool.or_eq_true, decide_eq_true_eq] at h
      rcases h with h | h
      · exact clq_T i w h
      · rw [h]; exact (amx_some hv).1
theorem clq_O : ∀ (i j : Nat), (clq A f n (brP n col) i).2 j = true ↔ brP n col j = true ∧ ∀ w, (clq A f n (brP n col) i).1 w = true → A w j = true
  | 0, j => ⟨fun h => ⟨h, fun w h2 => by cases h2⟩, fun h => h.1⟩
  | i + 1, j => by
    have ih := clq_O i j
    unfold clq
    split
    · exact ih
    · next v hv =>
      simp only [Bool.and_eq_true, Bool.or_eq_true, decide_eq_true_eq]
      rw [ih]
      constructor
      · rintro ⟨⟨h1, h2⟩, h3⟩
        refine ⟨h1, fun w hw => ?_⟩
        rcases hw with hw | hw
        · exact h2 w hw
        · rw [hw]; exact h3
      · rintro ⟨h1, h2⟩
        exact ⟨⟨h1, fun w hw => h2 w (Or.inl hw)⟩, h2 v (Or.inr rfl)⟩
theorem clq_succ {i v : Nat} (h : amx (clq A f n (brP n col) i).2 f n = some v) : clq A f n (brP n col) (i + 1) = (fun j => (clq A f n (brP n col) i).1 j || decide (j = v), fun j => (clq A f n (brP n col) i).2 j && A v j) := by
  show (match amx (clq A f n (brP n col) i).2 f n with
    | none => clq A f n (brP n col) i
    | some v => _) = _
  rw [h]
theorem clq_cnt (hk : Gok n A) {i v : Nat} (h : amx (clq A f n (brP n col) i).2 f n = some v) : cnt (clq A f n (brP n col) (i + 1)).1 32 = cnt (clq A f n (brP n col) i).1 32 + 1 := by
  have hn := hk.1
  rw [clq_succ h]
  obtain ⟨h1, h2, -⟩ := amx_some h
  refine cnt_ins ?_ (by omega)
  cases hT : (clq A f n (brP n col) i).1 v with
  | false => rfl
  | true => have := ((clq_O i v).mp h2).2 v hT; rw [hk.2.2.1] at this; cases this
theorem cnt_32 {p : Nat → Bool} {n : Nat} (hn : n ≤ 30) (h : ∀ w, p w = true → w < n) : cnt p 32 ≤ n := by
  rw [cnt_more (n := n) (m := 32) (by omega) (fun i h1 _ => by
    cases hp : p i with
    | false => rfl
    | true => have := h i hp; omega)]
  exact cnt_le _ _
end
section
variable (x : Nat → aC) (n : Nat) (nr ot : fI) (cf sf : fI) (F : tF) (W L T : tW) (V : tM) (P : fI)
theorem r_size {h : List aC} (p : Nat → Bool) : aRet 0 0 0 mX8_size [.int (bS p)] h (fun w g => w = some (.int (nI (cnt p 32))) ∧ g = h) := by
  refine aRet.of (by decide) (Nat.le_of_ble_eq_true rfl) (a_ok2 rfl) ?_
  refine g_iconst (v := 0) (pc1 := 1) dX8_size_0 rfl (by decide) ?_
  refine g_istore_n (i := 1) (pc1 := 2) dX8_size_1 rfl rfl (Nat.le_of_ble_eq_true rfl) ?_
  refine g_iconst (v := 0) (pc1 := 3) dX8_size_2 rfl (by decide) ?_
  refine g_istore_n (i := 2) (pc1 := 4) dX8_size_3 rfl rfl (Nat.le_of_ble_eq_true rfl) ?_
  refine down0 (P := fun i => aGo _ 4 [.int (bS p), .int (nI (cnt p i)), .int (nI i)] [] h 0 0) 32 ?_ ?_
  · refine g_iload_n (i := 2) (pc1 := 5) dX8_size_4 rfl rfl rfl ?_
    refine g_bipush (v := 32) (pc1 := 7) dX8_size_5 rfl (by decide) ?_
    refine g_icmp_ge (pc1 := 10) (tgt := 24) dX8_size_7 rfl (by decide) (fun _ => ?_) (fun hbr9 => absurd (by decide) hbr9)
    refine g_iload_n (i := 1) (pc1 := 25) dX8_size_24 rfl rfl rfl ?_
    refine g_iret dX8_size_25 rfl rfl (Nat.le_of_ble_eq_true rfl) (Nat.le_of_ble_eq_true rfl) ?_
    exact ⟨rfl, rfl⟩
  · intro i hi ih
    refine g_iload_n (i := 2) (pc1 := 5) dX8_size_4 rfl rfl rfl ?_
    refine g_bipush (v := 32) (pc1 := 7) dX8_size_5 rfl (by decide) ?_
    refine g_icmp_ge (pc1 := 10) (tgt := 24) dX8_size_7 rfl (by decide) (fun hbr9 => absurd hbr9 (fun c => absurd ((nI_leI (a := 32) (b := i) (by omega) (by omega)).mp c) (by omega))) (fun _ => ?_)
    refine g_iload_n (i := 1) (pc1 := 11) dX8_size_10 rfl rfl rfl ?_
    refine g_iload_n (i := 0) (pc1 := 12) dX8_size_11 rfl rfl rfl ?_
    refine g_iload_n (i := 2) (pc1 := 13) dX8_size_12 rfl rfl rfl ?_
    refine g_ishr (pc1 := 14) dX8_size_13 rfl ?_
    refine g_iconst (v := 1) (pc1 := 15) dX8_size_14 rfl (by decide) ?_
    refine g_iand (pc1 := 16) dX8_size_15 rfl ?_
    rw [bt_test _ hi, bt_bS, decide_eq_true hi, Bool.true_and]
    refine g_iadd (pc1 := 17) dX8_size_16 rfl ?_
    refine g_istore_n (i := 1) (pc1 := 18) dX8_size_17 rfl rfl (Nat.le_of_ble_eq_true rfl) ?_
    refine g_iinc (pc1 := 21) dX8_size_18 rfl rfl rfl ?_
    refine g_goto (tgt := 4) dX8_size_21 (by decide) ?_
    refine aGo.eq ih ?_ rfl rfl
    show [Value.int (bS p), .int (nI (cnt p i) + bI (p i)), .int (nI i + Int32.ofInt 1)] = _
    have e0 : cnt p (i + 1) = cnt p i + (if p i then 1 else 0) := rfl
    rw [show nI i + Int32.ofInt 1 = nI (i + 1) from nI_1 i, e0]
    cases p i with
    | false => simp [bI]
    | true => simp [bI, nI_1]
def nrA (n : Nat) (A : Nat → Nat → Bool) (v : Nat) (p : Nat → Bool) : Bool := !ex (fun w => p w && !A v w) n
theorem r_isNearAll {A : Nat → Nat → Bool} (hg : rG (nI n, nr, ot) n A) (hn : n ≤ 30) {v : Nat} (hv : v < 30) (p : Nat → Bool) : aRet 1 0 0 mX8_isNearAll [.ref 24, .int (nI v), .int (bS p)] (rp x (nI n, nr, ot) (cf, sf) F W L T V P) (fun w g => w = some (.int (bI (nrA n A v p))) ∧ g = rp x (nI n, nr, ot) (cf, sf) F W L T V P) := by
  refine aRet.of (by decide) (Nat.le_of_ble_eq_true rfl) (a_ok2 rfl) ?_
  refine g_iconst (v := 1) (pc1 := 1) dX8_isNearAll_0 rfl (by decide) ?_
  refine g_istore_n (i := 3) (pc1 := 2) dX8_isNearAll_1 rfl rfl (Nat.le_of_ble_eq_true rfl) ?_
  refine g_iconst (v := 0) (pc1 := 3) dX8_isNearAll_2 rfl (by decide) ?_
  refine g_istore (pc1 := 5) dX8_isNearAll_3 rfl (Nat.le_of_ble_eq_true rfl) ?_
  refine down0 (P := fun i => aGo _ 5 [.ref 24, .int (nI v), .int (bS p), .int (bI (nrA i A v p)), .int (nI i)] [] (rp x (nI n, nr, ot) (cf, sf) F W L T V P) 0 0) n ?_ ?_
  · refine g_iload (pc1 := 7) dX8_isNearAll_5 rfl rfl ?_
    refine g_aload_n (i := 0) (pc1 := 8) dX8_isNearAll_7 rfl rfl rfl ?_
    refine g_get (pc1 := 11) dX8_isNearAll_8 rfl flX8_50 rfl rfl ?_
    refine g_icmp_ge (pc1 := 14) (tgt := 49) dX8_isNearAll_11 rfl (by decide) (fun _ => ?_) (fun hbr9 => absurd (Int32.le_refl _) hbr9)
    refine g_iload_n (i := 3) (pc1 := 50) dX8_isNearAll_49 rfl rfl rfl ?_
    refine g_iret dX8_isNearAll_50 rfl (bI_nar _) (Nat.le_of_ble_eq_true rfl) (Nat.le_of_ble_eq_true rfl) ?_
    exact ⟨rfl, rfl⟩
  · intro i hi ih
    have e0 : nrA (i + 1) A v p = (nrA i A v p && (!p i || A v i)) := by
      show (!(ex (fun w => p w && !A v w) i || (p i && !A v i))) = _
      unfold nrA
      cases ex (fun w => p w && !A v w) i <;> cases p i <;> cases A v i <;> rfl
    have fin : ∀ y : Bool, nrA (i + 1) A v p = y → aGo (1, 0, 0, mX8_isNearAll, none, fun w g => w = some (.int (bI (nrA n A v p))) ∧ g = rp x (nI n, nr, ot) (cf, sf) F W L T V P) 42 [.ref 24, .int (nI v), .int (bS p), .int (bI (nrA i A v p)), .int (nI i)] [.int (bI y)] (rp x (nI n, nr, ot) (cf, sf) F W L T V P) 0 0 := by
      intro y hy
      refine g_istore_n (i := 3) (pc1 := 43) dX8_isNearAll_42 rfl rfl (Nat.le_of_ble_eq_true rfl) ?_
      refine g_iinc (pc1 := 46) dX8_isNearAll_43 rfl rfl rfl ?_
      refine g_goto (tgt := 5) dX8_isNearAll_46 (by decide) ?_
      refine aGo.eq ih ?_ rfl rfl
      show [Value.ref 24, .int (nI v), .int (bS p), .int (bI y), .int (nI i + Int32.ofInt 1)] = _
      rw [show nI i + Int32.ofInt 1 = nI (i + 1) from nI_1 i, hy]
    refine g_iload (pc1 := 7) dX8_isNearAll_5 rfl rfl ?_
    refine g_aload_n (i := 0) (pc1 := 8) dX8_isNearAll_7 rfl rfl rfl ?_
    refine g_get (pc1 := 11) dX8_isNearAll_8 rfl flX8_50 rfl rfl ?_
    refine g_icmp_ge (pc1 := 14) (tgt := 49) dX8_isNearAll_11 rfl (by decide) (fun hbr9 => absurd hbr9 (fun c => absurd ((nI_leI (a := n) (b := i) (by omega) (by omega)).mp c) (by omega))) (fun _ => ?_)
    refine g_iload_n (i := 3) (pc1 := 15) dX8_isNearAll_14 rfl rfl rfl ?_
    refine g_if_eq (pc1 := 18) (tgt := 41) dX8_isNearAll_15 rfl (by decide) (fun c1 => ?_) (fun c1 => ?_)
    · rw [bI_eq0] at c1
      refine g_iconst (v := 0) (pc1 := 42) dX8_isNearAll_41 rfl (by decide) ?_
      exact fin false (by rw [e0, c1]; rfl)
    · rw [bI_ne0] at c1
      refine g_iload_n (i := 2) (pc1 := 19) dX8_isNearAll_18 rfl rfl rfl ?_
      refine g_iload (pc1 := 21) dX8_isNearAll_19 rfl rfl ?_
      refine g_ishr (pc1 := 22) dX8_isNearAll_21 rfl ?_
      refine g_iconst (v := 1) (pc1 := 23) dX8_isNearAll_22 rfl (by decide) ?_
      refine g_iand (pc1 := 24) dX8_isNearAll_23 rfl ?_
      rw [bt_test _ (by omega), bt_bS, decide_eq_true (show i < 32 by omega), Bool.true_and]
      refine g_if_eq (pc1 := 27) (tgt := 37) dX8_isNearAll_24 rfl (by decide) (fun c2 => ?_) (fun c2 => ?_)
      · rw [bI_eq0] at c2
        refine g_iconst (v := 1) (pc1 := 38) dX8_isNearAll_37 rfl (by decide) ?_
        refine g_goto (tgt := 42) dX8_isNearAll_38 (by decide) ?_
        exact fin true (by rw [e0, c1, c2]; rfl)
      · rw [bI_ne0] at c2
        refine g_aload_n (i := 0) (pc1 := 28) dX8_isNearAll_27 rfl rfl rfl ?_
        refine g_iload_n (i := 1) (pc1 := 29) dX8_isNearAll_28 rfl rfl rfl ?_
        refine g_iload (pc1 := 31) dX8_isNearAll_29 rfl rfl ?_
        refine g_V2 (M := mX8_isNear) (pc1 := 34) dX8_isNearAll_31 rfl lkX8_62 tmX8_isNear rfl (r_isNear x n nr ot (cf, sf) F W L T V P hg (a := v) (b := i) hv (by omega)) (Nat.le_of_ble_eq_true rfl) rfl (Nat.le_of_ble_eq_true rfl) (Nat.le_of_ble_eq_true rfl) ?_
        rintro _ _ ⟨rfl, rfl⟩
        refine g_if_eq (pc1 := 37) (tgt := 41) dX8_isNearAll_34 rfl (by decide) (fun c3 => ?_) (fun c3 => ?_)
        · rw [bI_eq0] at c3
          refine g_iconst (v := 0) (pc1 := 42) dX8_isNearAll_41 rfl (by decide) ?_
          exact fin false (by rw [e0, c1, c2, c3]; rfl)
        · rw [bI_ne0] at c3
          refine g_iconst (v := 1) (pc1 := 38) dX8_isNearAll_37 rfl (by decide) ?_
          refine g_goto (tgt := 42) dX8_isNearAll_38 (by decide) ?_
          exact fin true (by rw [e0, c1, c2, c3]; rfl)
set_option maxHeartbeats 1000000 in
theorem r_freeFor {A : Nat → Nat → Bool} (hg : rG (nI n, nr, ot) n A) (hn : n ≤ 30) {col : tCol} (hc : rK cf col) (h30 : c30 col) (p : Nat → Bool) {k : Nat} (hk30 : k ≤ 30) : aRet 2 0 0 mX8_freeFor [.ref 24, .int (bS p), .int (nI k)] (rp x (nI n, nr, ot) (cf, sf) F W L T V P) (fun w g => w = some (.int (nI (cnt (frS n A col k p) 30))) ∧ g = rp x (nI n, nr, ot) (cf, sf) F W L T V P) := by
  refine aRet.of (by decide) (Nat.le_of_ble_eq_true rfl) (a_ok2 rfl) ?_
  refine g_iconst (v := 0) (pc1 := 1) dX8_freeFor_0 rfl (by decide) ?_
  refine g_istore_n (i := 3) (pc1 := 2) dX8_freeFor_1 rfl rfl (Nat.le_of_ble_eq_true rfl) ?_
  refine g_iconst (v := 0) (pc1 := 3) dX8_freeFor_2 rfl (by decide) ?_
  refine g_istore (pc1 := 5) dX8_freeFor_3 rfl (Nat.le_of_ble_eq_true rfl) ?_
  refine down0 (P := fun c => aGo _ 5 [.ref 24, .int (bS p), .int (nI k), .int (nI (cnt (fun c => ex (fun v => p v && !hC n A col v c) n) c)), .int (nI c), .null, .null] [] (rp x (nI n, nr, ot) (cf, sf) F W L T V P) 0 0) k ?_ ?_
  · refine g_iload (pc1 := 7) dX8_freeFor_5 rfl rfl ?_
    refine g_iload_n (i := 2) (pc1 := 8) dX8_freeFor_7 rfl rfl rfl ?_
    refine g_icmp_ge (pc1 := 11) (tgt := 84) dX8_freeFor_8 rfl (by decide) (fun _ => ?_) (fun hbr9 => absurd (Int32.le_refl _) hbr9)
    refine g_iload_n (i := 3) (pc1 := 85) dX8_freeFor_84 rfl rfl rfl ?_
    refine g_iret dX8_freeFor_85 rfl rfl (Nat.le_of_ble_eq_true rfl) (Nat.le_of_ble_eq_true rfl) ?_
    refine ⟨?_, rfl⟩
    have e : cnt (frS n A col k p) 30 = cnt (fun c => ex (fun v => p v && !hC n A col v c) n) k := by
      rw [cnt_more (n := k) (m := 30) hk30 (fun i h1 _ => by unfold frS; rw [decide_eq_false (by omega)]; rfl)]
      exact cnt_congr fun i hi => by unfold frS; rw [decide_eq_true hi]; rfl
    rw [e]
  · intro c hck ih
    refine g_iload (pc1 := 7) dX8_freeFor_5 rfl rfl ?_
    refine g_iload_n (i := 2) (pc1 := 8) dX8_freeFor_7 rfl rfl rfl ?_
    refine g_icmp_ge (pc1 := 11) (tgt := 84) dX8_freeFor_8 rfl (by decide) (fun hbr9 => absurd hbr9 (fun q => absurd ((nI_leI (a := k) (b := c) (by omega) (by omega)).mp q) (by omega))) (fun _ => ?_)
    refine g_iconst (v := 0) (pc1 := 12) dX8_freeFor_11 rfl (by decide) ?_
    refine g_istore (pc1 := 14) dX8_freeFor_12 rfl (Nat.le_of_ble_eq_true rfl) ?_
    refine g_iconst (v := 0) (pc1 := 15) dX8_freeFor_14 rfl (by decide) ?_
    refine g_istore (pc1 := 17) dX8_freeFor_15 rfl (Nat.le_of_ble_eq_true rfl) ?_
    refine down0 (P := fun v => aGo _ 17 [.ref 24, .int (bS p), .int (nI k), .int (nI (cnt (fun c => ex (fun v => p v && !hC n A col v c) n) c)), .int (nI c), .int (bI (ex (fun v => p v && !hC n A col v c) v)), .int (nI v)] [] (rp x (nI n, nr, ot) (cf, sf) F W L T V P) 0 0) n ?_ ?_
    · refine g_iload (pc1 := 19) dX8_freeFor_17 rfl rfl ?_
      refine g_aload_n (i := 0) (pc1 := 20) dX8_freeFor_19 rfl rfl rfl ?_
      refine g_get (pc1 := 23) dX8_freeFor_20 rfl flX8_50 rfl rfl ?_
      refine g_icmp_ge (pc1 := 26) (tgt := 65) dX8_freeFor_23 rfl (by decide) (fun _ => ?_) (fun hbr9 => absurd (Int32.le_refl _) hbr9)
      have e0 : cnt (fun c => ex (fun v => p v && !hC n A col v c) n) (c + 1) = cnt (fun c => ex (fun v => p v && !hC n A col v c) n) c + (if ex (fun v => p v && !hC n A col v c) n then 1 else 0) := rfl
      refine g_iload_n (i := 3) (pc1 := 66) dX8_freeFor_65 rfl rfl rfl ?_
      refine g_iload (pc1 := 68) dX8_freeFor_66 rfl rfl ?_
      refine g_if_eq (pc1 := 71) (tgt := 75) dX8_freeFor_68 rfl (by decide) (fun c1 => ?_) (fun c1 => ?_)
      · rw [bI_eq0] at c1
        refine g_iconst (v := 0) (pc1 := 76) dX8_freeFor_75 rfl (by decide) ?_
        refine g_iadd (pc1 := 77) dX8_freeFor_76 rfl ?_
        refine g_istore_n (i := 3) (pc1 := 78) dX8_freeFor_77 rfl rfl (Nat.le_of_ble_eq_true rfl) ?_
        refine g_iinc (pc1 := 81) dX8_freeFor_78 rfl rfl rfl ?_
        refine g_goto (tgt := 5) dX8_freeFor_81 (by decide) ?_
        refine aGo.forget 5 ?_
        refine aGo.forget 6 ?_
        refine aGo.eq ih ?_ rfl rfl
        show [Value.ref 24, .int (bS p), .int (nI k), .int (nI (cnt (fun c => ex (fun v => p v && !hC n A col v c) n) c) + 0), .int (nI c + Int32.ofInt 1), .null, .null] = _
        rw [show nI c + Int32.ofInt 1 = nI (c + 1) from nI_1 c, e0, c1]
        simp
      · rw [bI_ne0] at c1
        refine g_iconst (v := 1) (pc1 := 72) dX8_freeFor_71 rfl (by decide) ?_
        refine g_goto (tgt := 76) dX8_freeFor_72 (by decide) ?_
        refine g_iadd (pc1 := 77) dX8_freeFor_76 rfl ?_
        refine g_istore_n (i := 3) (pc1 := 78) dX8_freeFor_77 rfl rfl (Nat.le_of_ble_eq_true rfl) ?_
        refine g_iinc (pc1 := 81) dX8_freeFor_78 rfl rfl rfl ?_
        refine g_goto (tgt := 5) dX8_freeFor_81 (by decide) ?_
        refine aGo.forget 5 ?_
        refine aGo.forget 6 ?_
        refine aGo.eq ih ?_ rfl rfl
        show [Value.ref 24, .int (bS p), .int (nI k), .int (nI (cnt (fun c => ex (fun v => p v && !hC n A col v c) n) c) + 1), .int (nI c + Int32.ofInt 1), .null, .null] = _
        rw [show nI c + Int32.ofInt 1 = nI (c + 1) from nI_1 c, e0, c1, nI_1]
        rfl
    · intro v hv ih2
      have e0 : ex (fun v => p v && !hC n A col v c) (v + 1) = (ex (fun v => p v && !hC n A col v c) v || (p v && !hC n A col v c)) := rfl
      have fin : ∀ y : Bool, ex (fun v => p v && !hC n A col v c) (v + 1) = y → aGo (2, 0, 0, mX8_freeFor, none, fun w g => w = some (.int (nI (cnt (frS n A col k p) 30))) ∧ g = rp x (nI n, nr, ot) (cf, sf) F W L T V P) 57 [.ref 24, .int (bS p), .int (nI k), .int (nI (cnt (fun c => ex (fun v => p v && !hC n A col v c) n) c)), .int (nI c), .int (bI (ex (fun v => p v && !hC n A col v c) v)), .int (nI v)] [.int (bI y)] (rp x (nI n, nr, ot) (cf, sf) F W L T V P) 0 0 := by
        intro y hy
        refine g_istore (pc1 := 59) dX8_freeFor_57 rfl (Nat.le_of_ble_eq_true rfl) ?_
        refine g_iinc (pc1 := 62) dX8_freeFor_59 rfl rfl rfl ?_
        refine g_goto (tgt := 17) dX8_freeFor_62 (by decide) ?_
        refine aGo.eq ih2 ?_ rfl rfl
        show [Value.ref 24, .int (bS p), .int (nI k), .int (nI (cnt (fun c => ex (fun v => p v && !hC n A col v c) n) c)), .int (nI c), .int (bI y), .int (nI v + Int32.ofInt 1)] = _
        rw [show nI v + Int32.ofInt 1 = nI (v + 1) from nI_1 v, hy]
      refine g_iload (pc1 := 19) dX8_freeFor_17 rfl rfl ?_
      refine g_aload_n (i := 0) (pc1 := 20) dX8_freeFor_19 rfl rfl rfl ?_
      refine g_get (pc1 := 23) dX8_freeFor_20 rfl flX8_50 rfl rfl ?_
      refine g_icmp_ge (pc1 := 26) (tgt := 65) dX8_freeFor_23 rfl (by decide) (fun hbr9 => absurd hbr9 (fun q => absurd ((nI_leI (a := n) (b := v) (by omega) (by omega)).mp q) (by omega))) (fun _ => ?_)
      refine g_iload (pc1 := 28) dX8_freeFor_26 rfl rfl ?_
      refine g_if_ne (pc1 := 31) (tgt := 52) dX8_freeFor_28 rfl (by decide) (fun c1 => ?_) (fun c1 => ?_)
      · rw [bI_ne0] at c1
        refine g_iconst (v := 1) (pc1 := 53) dX8_freeFor_52 rfl (by decide) ?_
        refine g_goto (tgt := 57) dX8_freeFor_53 (by decide) ?_
        exact fin true (by rw [e0, c1]; rfl)
      · rw [bI_eq0] at c1
        refine g_iload_n (i := 1) (pc1 := 32) dX8_freeFor_31 rfl rfl rfl ?_
        refine g_iload (pc1 := 34) dX8_freeFor_32 rfl rfl ?_
        refine g_ishr (pc1 := 35) dX8_freeFor_34 rfl ?_
        refine g_iconst (v := 1) (pc1 := 36) dX8_freeFor_35 rfl (by decide) ?_
        refine g_iand (pc1 := 37) dX8_freeFor_36 rfl ?_
        refine g_iconst (v := 1) (pc1 := 38) dX8_freeFor_37 rfl (by decide) ?_
        rw [bt_test _ (by omega), bt_bS, decide_eq_true (show v < 32 by omega), Bool.true_and]
        refine g_icmp_ne (pc1 := 41) (tgt := 56) dX8_freeFor_38 rfl (by decide) (fun c2 => ?_) (fun c2 => ?_)
        · rw [bI_eq1] at c2
          refine g_iconst (v := 0) (pc1 := 57) dX8_freeFor_56 rfl (by decide) ?_
          exact fin false (by rw [e0, c1, show p v = false by simpa using c2]; rfl)
        · rw [bI_eq1] at c2
          refine g_aload_n (i := 0) (pc1 := 42) dX8_freeFor_41 rfl rfl rfl ?_
          refine g_iload (pc1 := 44) dX8_freeFor_42 rfl rfl ?_
          refine g_iload (pc1 := 46) dX8_freeFor_44 rfl rfl ?_
          refine g_V2 (M := mX8_neighbourWith) (pc1 := 49) dX8_freeFor_46 rfl lkX8_84 tmX8_neighbourWith rfl (r_neighbourWith x n nr ot cf sf F W L T V P hg hn hc h30 (v := v) (c := c) (by omega) (by omega)) (Nat.le_of_ble_eq_true rfl) rfl (Nat.le_of_ble_eq_true rfl) (Nat.le_of_ble_eq_true rfl) ?_
          rintro _ _ ⟨rfl, rfl⟩
          have hneg := enL_neg hn (nbW_le n A col v c)
          refine g_if_ge (pc1 := 52) (tgt := 56) dX8_freeFor_49 rfl (by decide) (fun c3 => ?_) (fun c3 => ?_)
          · have h0 : hC n A col v c = true := nbW_hC.mp (Classical.byContradiction fun q => absurd (hneg.mpr q) (Int32.not_lt.mpr c3))
            refine g_iconst (v := 0) (pc1 := 57) dX8_freeFor_56 rfl (by decide) ?_
            exact fin false (by rw [e0, c1, c2, h0]; rfl)
          · have h0 : hC n A col v c = false := by
              cases h : hC n A col v c with
              | false => rfl
              | true => exact absurd (nbW_hC.mpr h) (hneg.mp (Int32.not_le.mp c3))
            refine g_iconst (v := 1) (pc1 := 53) dX8_freeFor_52 rfl (by decide) ?_
            refine g_goto (tgt := 57) dX8_freeFor_53 (by decide) ?_
            exact fin true (by rw [e0, c1, c2, h0]; rfl)
def flF (n : Nat) (A : Nat → Nat → Bool) (col : tCol) (st : Bool) : Nat → Nat := if st then foF n A col else dg A n
set_option maxHeartbeats 2000000 in
theorem r_firstLeft {A : Nat → Nat → Bool} (hg : rG (nI n, nr, ot) n A) (hk : Gok n A) {col : tCol} (hc : rK cf col) (h30 : c30 col) {sp : Nat → Bool} (hs : rS sf sp) (st : Bool) : aRet 3 0 0 mX8_firstLeft [.ref 24, .int (bI st)] (rp x (nI n, nr, ot) (cf, sf) F W L T V P) (fun w g => w = some (.int (enO (amx (fun v => !sp v && brP n col v) (flF n A col st) n))) ∧ g = rp x (nI n, nr, ot) (cf, sf) F W L T V P) := by
  have hn := hk.1
  generalize hR : amx (fun v => !sp v && brP n col v) (flF n A col st) n = R
  refine aRet.of (by decide) (Nat.le_of_ble_eq_true rfl) (a_ok2 rfl) ?_
  refine g_iconst (v := (-1)) (pc1 := 1) dX8_firstLeft_0 rfl (by decide) ?_
  refine g_istore_n (i := 2) (pc1 := 2) dX8_firstLeft_1 rfl rfl (Nat.le_of_ble_eq_true rfl) ?_
  refine g_iconst (v := 0) (pc1 := 3) dX8_firstLeft_2 rfl (by decide) ?_
  refine g_istore_n (i := 3) (pc1 := 4) dX8_firstLeft_3 rfl rfl (Nat.le_of_ble_eq_true rfl) ?_
  have key : R = amx (fun v => !sp v && brP n col v) (flF n A col st) n → aGo (3, 0, 0, mX8_firstLeft, none, fun w g => w = some (.int (enO R)) ∧ g = rp x (nI n, nr, ot) (cf, sf) F W L T V P) 4 [.ref 24, .int (bI st), .int (enO (amx (fun v => !sp v && brP n col v) (flF n A col st) 0)), .int (nI 0), .null, .null, .null] [] (rp x (nI n, nr, ot) (cf, sf) F W L T V P) 0 0 := by
    intro hR
    refine down0 (P := fun i => aGo _ 4 [.ref 24, .int (bI st), .int (enO (amx (fun v => !sp v && brP n col v) (flF n A col st) i)), .int (nI i), .null, .null, .null] [] (rp x (nI n, nr, ot) (cf, sf) F W L T V P) 0 0) n ?_ ?_
    · refine g_iload_n (i := 3) (pc1 := 5) dX8_firstLeft_4 rfl rfl rfl ?_
      refine g_aload_n (i := 0) (pc1 := 6) dX8_firstLeft_5 rfl rfl rfl ?_
      refine g_get (pc1 := 9) dX8_firstLeft_6 rfl flX8_50 rfl rfl ?_
      refine g_icmp_ge (pc1 := 12) (tgt := 119) dX8_firstLeft_9 rfl (by decide) (fun _ => ?_) (fun hbr9 => absurd (Int32.le_refl _) hbr9)
      refine g_iload_n (i := 2) (pc1 := 120) dX8_firstLeft_119 rfl rfl rfl ?_
      refine g_iret dX8_firstLeft_120 rfl rfl (Nat.le_of_ble_eq_true rfl) (Nat.le_of_ble_eq_true rfl) ?_
      exact ⟨by rw [hR], rfl⟩
    · intro i hi ih
      have e0 : amx (fun v => !sp v && brP n col v) (flF n A col st) (i + 1) = if (!sp i && brP n col i) = true then (match amx (fun v => !sp v && brP n col v) (flF n A col st) i with
          | none => some i
          | some b => if flF n A col st b < flF n A col st i then some i else some b) else amx (fun v => !sp v && brP n col v) (flF n A col st) i := rfl
      have skip : (!sp i && brP n col i) = false → aGo (3, 0, 0, mX8_firstLeft, none, fun w g => w = some (.int (enO R)) ∧ g = rp x (nI n, nr, ot) (cf, sf) F W L T V P) 113 [.ref 24, .int (bI st), .int (enO (amx (fun v => !sp v && brP n col v) (flF n A col st) i)), .int (nI i), .null, .null, .null] [] (rp x (nI n, nr, ot) (cf, sf) F W L T V P) 0 0 := by
        intro h0
        refine g_iinc (pc1 := 116) dX8_firstLeft_113 rfl rfl rfl ?_
        refine g_goto (tgt := 4) dX8_firstLeft_116 (by decide) ?_
        refine aGo.eq ih ?_ rfl rfl
        show [Value.ref 24, .int (bI st), .int (enO (amx (fun v => !sp v && brP n col v) (flF n A col st) i)), .int (nI i + Int32.ofInt 1), .null, .null, .null] = _
        rw [if_neg (by rw [h0]; decide)] at e0
        rw [show nI i + Int32.ofInt 1 = nI (i + 1) from nI_1 i, e0]
      refine g_iload_n (i := 3) (pc1 := 5) dX8_firstLeft_4 rfl rfl rfl ?_
      refine g_aload_n (i := 0) (pc1 := 6) dX8_firstLeft_5 rfl rfl rfl ?_
      refine g_get (pc1 := 9) dX8_firstLeft_6 rfl flX8_50 rfl rfl ?_
      refine g_icmp_ge (pc1 := 12) (tgt := 119) dX8_firstLeft_9 rfl (by decide) (fun hbr9 => absurd hbr9 (fun c => absurd ((nI_leI (a := n) (b := i) (by omega) (by omega)).mp c) (by omega))) (fun _ => ?_)
      refine g_aload_n (i := 0) (pc1 := 13) dX8_firstLeft_12 rfl rfl rfl ?_
      refine g_get (pc1 := 16) dX8_firstLeft_13 rfl flX8_47 rfl rfl ?_
      refine g_iload_n (i := 3) (pc1 := 17) dX8_firstLeft_16 rfl rfl rfl ?_
      refine g_zaldJ (pc1 := 18) dX8_firstLeft_17 rfl rfl rfl (by omega) (by decide) ?_
      rw [show (cf, sf).2 i = bI (sp i) from hs i (by omega)]
      refine g_if_ne (pc1 := 21) (tgt := 113) dX8_firstLeft_18 rfl (by decide) (fun c1 => ?_) (fun c1 => ?_)
      · rw [bI_ne0] at c1
        exact skip (by rw [c1]; rfl)
      · rw [bI_eq0] at c1
        refine g_aload_n (i := 0) (pc1 := 22) dX8_firstLeft_21 rfl rfl rfl ?_
        refine g_get (pc1 := 25) dX8_firstLeft_22 rfl flX8_16 rfl rfl ?_
        refine g_iload_n (i := 3) (pc1 := 26) dX8_firstLeft_25 rfl rfl rfl ?_
        refine g_ialdJ (pc1 := 27) dX8_firstLeft_26 rfl rfl rfl (by omega) (by decide) ?_
        rw [show (cf, sf).1 i = enO (col i) from hc i (by omega)]
        have hneg := enO_neg (h30 i)
        refine g_if_ge (pc1 := 30) (tgt := 113) dX8_firstLeft_27 rfl (by decide) (fun c2 => ?_) (fun c2 => ?_)
        · refine skip ?_
          cases hci : col i with
          | none => exact absurd (hneg.mpr hci) (Int32.not_lt.mpr c2)
          | some d => simp [brP, hci]
        · have hci := hneg.mp (Int32.not_le.mp c2)
          have hb1 : (!sp i && brP n col i) = true := by rw [c1]; simp [brP, hi, hci]
          rw [if_pos hb1] at e0
          have fin : ∀ (a5 a6 : Int32) (y : Bool), (y = true → amx (fun v => !sp v && brP n col v) (flF n A col st) (i + 1) = some i) → (y = false → amx (fun v => !sp v && brP n col v) (flF n A col st) (i + 1) = amx (fun v => !sp v && brP n col v) (flF n A col st) i) → aGo (3, 0, 0, mX8_firstLeft, none, fun w g => w = some (.int (enO R)) ∧ g = rp x (nI n, nr, ot) (cf, sf) F W L T V P) 100 [.ref 24, .int (bI st), .int (enO (amx (fun v => !sp v && brP n col v) (flF n A col st) i)), .int (nI i), .int a5, .int a6, .null] [.int (bI y)] (rp x (nI n, nr, ot) (cf, sf) F W L T V P) 0 0 := by
            intro a5 a6 y h1 h2
            refine g_istore (pc1 := 102) dX8_firstLeft_100 rfl (Nat.le_of_ble_eq_true rfl) ?_
            refine g_iload (pc1 := 104) dX8_firstLeft_102 rfl rfl ?_
            cases y with
            | false =>
              refine g_if_eq (pc1 := 107) (tgt := 111) dX8_firstLeft_104 rfl (by decide) (fun _ => ?_) (fun hbr9 => absurd rfl hbr9)
              refine g_iload_n (i := 2) (pc1 := 112) dX8_firstLeft_111 rfl rfl rfl ?_
              refine g_istore_n (i := 2) (pc1 := 113) dX8_firstLeft_112 rfl rfl (Nat.le_of_ble_eq_true rfl) ?_
              refine g_iinc (pc1 := 116) dX8_firstLeft_113 rfl rfl rfl ?_
              refine g_goto (tgt := 4) dX8_firstLeft_116 (by decide) ?_
              refine aGo.forget 4 ?_
              refine aGo.forget 5 ?_
              refine aGo.forget 6 ?_
              refine aGo.eq ih ?_ rfl rfl
              show [Value.ref 24, .int (bI st), .int (enO (amx (fun v => !sp v && brP n col v) (flF n A col st) i)), .int (nI i + Int32.ofInt 1), .null, .null, .null] = _
              rw [show nI i + Int32.ofInt 1 = nI (i + 1) from nI_1 i, h2 rfl]
            | true =>
              refine g_if_eq (pc1 := 107) (tgt := 111) dX8_firstLeft_104 rfl (by decide) (fun hbr9 => absurd hbr9 (by decide)) (fun _ => ?_)
              refine g_iload_n (i := 3) (pc1 := 108) dX8_firstLeft_107 rfl rfl rfl ?_
              refine g_goto (tgt := 112) dX8_firstLeft_108 (by decide) ?_
              refine g_istore_n (i := 2) (pc1 := 113) dX8_firstLeft_112 rfl rfl (Nat.le_of_ble_eq_true rfl) ?_
              refine g_iinc (pc1 := 116) dX8_firstLeft_113 rfl rfl rfl ?_
              refine g_goto (tgt := 4) dX8_firstLeft_116 (by decide) ?_
              refine aGo.forget 4 ?_
              refine aGo.forget 5 ?_
              refine aGo.forget 6 ?_
              refine aGo.eq ih ?_ rfl rfl
              show [Value.ref 24, .int (bI st), .int (nI i), .int (nI i + Int32.ofInt 1), .null, .null, .null] = _
              rw [show nI i + Int32.ofInt 1 = nI (i + 1) from nI_1 i, h1 rfl]
              rfl
          -- the comparison, with the two saturations (or two zeros)
          have cmp : ∀ (s1 s2 : Nat), s1 ≤ 30 → s2 ≤ 30 → (∀ b, amx (fun v => !sp v && brP n col v) (flF n A col st) i = some b → (flF n A col st b < flF n A col st i ↔ (s2 < s1 ∨ (s1 = s2 ∧ dg A n b < dg A n i)))) → aGo (3, 0, 0, mX8_firstLeft, none, fun w g => w = some (.int (enO R)) ∧ g = rp x (nI n, nr, ot) (cf, sf) F W L T V P) 64 [.ref 24, .int (bI st), .int (enO (amx (fun v => !sp v && brP n col v) (flF n A col st) i)), .int (nI i), .int (nI s1), .int (nI s2), .null] [] (rp x (nI n, nr, ot) (cf, sf) F W L T V P) 0 0 := by
            intro s1 s2 l1 l2 hcmp
            refine g_iload_n (i := 2) (pc1 := 65) dX8_firstLeft_64 rfl rfl rfl ?_
            cases hb : amx (fun v => !sp v && brP n col v) (flF n A col st) i with
            | none =>
              rw [hb] at fin e0
              refine g_if_lt (pc1 := 68) (tgt := 95) dX8_firstLeft_65 rfl (by decide) (fun _ => ?_) (fun hbr9 => absurd (by decide) hbr9)
              refine g_iconst (v := 1) (pc1 := 96) dX8_firstLeft_95 rfl (by decide) ?_
              refine g_goto (tgt := 100) dX8_firstLeft_96 (by decide) ?_
              exact fin _ _ true (fun _ => e0) (fun q => by cases q)
            | some b =>
              obtain ⟨g1, g2, -⟩ := amx_some hb
              have hcb := hcmp b hb
              rw [hb] at fin e0
              simp only [] at e0
              have yes : flF n A col st b < flF n A col st i → aGo (3, 0, 0, mX8_firstLeft, none, fun w g => w = some (.int (enO R)) ∧ g = rp x (nI n, nr, ot) (cf, sf) F W L T V P) 95 [.ref 24, .int (bI st), .int (nI b), .int (nI i), .int (nI s1), .int (nI s2), .null] [] (rp x (nI n, nr, ot) (cf, sf) F W L T V P) 0 0 := by
                intro hy
                refine g_iconst (v := 1) (pc1 := 96) dX8_firstLeft_95 rfl (by decide) ?_
                refine g_goto (tgt := 100) dX8_firstLeft_96 (by decide) ?_
                exact fin _ _ true (fun _ => by rw [e0, if_pos hy]) (fun q => by cases q)
              have no : ¬ flF n A col st b < flF n A col st i → aGo (3, 0, 0, mX8_firstLeft, none, fun w g => w = some (.int (enO R)) ∧ g = rp x (nI n, nr, ot) (cf, sf) F W L T V P) 99 [.ref 24, .int (bI st), .int (nI b), .int (nI i), .int (nI s1), .int (nI s2), .null] [] (rp x (nI n, nr, ot) (cf, sf) F W L T V P) 0 0 := by
                intro hy
                refine g_iconst (v := 0) (pc1 := 100) dX8_firstLeft_99 rfl (by decide) ?_
                exact fin _ _ false (fun q => by cases q) (fun _ => by rw [e0, if_neg hy])
              refine g_if_lt (pc1 := 68) (tgt := 95) dX8_firstLeft_65 rfl (by decide) (fun hbr9 => absurd hbr9 (nI_pos (by omega))) (fun _ => ?_)
              show aGo _ 68 [.ref 24, .int (bI st), .int (nI b), .int (nI i), .int (nI s1), .int (nI s2), .null] _ _ _ _
              refine g_iload (pc1 := 70) dX8_firstLeft_68 rfl rfl ?_
              refine g_iload (pc1 := 72) dX8_firstLeft_70 rfl rfl ?_
              refine g_icmp_gt (pc1 := 75) (tgt := 95) dX8_firstLeft_72 rfl (by decide) (fun c3 => ?_) (fun c3 => ?_)
              · have := (nI_ltI (a := s2) (b := s1) (by omega) (by omega)).mp c3
                exact yes (hcb.mpr (Or.inl this))
              · have h3 : ¬ s2 < s1 := fun q => c3 ((nI_ltI (a := s2) (b := s1) (by omega) (by omega)).mpr q)
                refine g_iload (pc1 := 77) dX8_firstLeft_75 rfl rfl ?_
                refine g_iload (pc1 := 79) dX8_firstLeft_77 rfl rfl ?_
                have hse : nI s1 = nI s2 ↔ s1 = s2 := nI_eq (by omega) (by omega)
                refine g_icmp_ne (pc1 := 82) (tgt := 99) dX8_firstLeft_79 rfl (by decide) (fun c4 => ?_) (fun c4 => ?_)
                · have h4 : ¬ s1 = s2 := fun q => c4 (hse.mpr q)
                  exact no (fun q => by rcases hcb.mp q with q | q <;> omega)
                · have h4 := hse.mp c4
                  have d1 := dg_le A n i
                  have d2 := dg_le A n b
                  refine g_aload_n (i := 0) (pc1 := 83) dX8_firstLeft_82 rfl rfl rfl ?_
                  refine g_iload_n (i := 3) (pc1 := 84) dX8_firstLeft_83 rfl rfl rfl ?_
                  refine g_V1 (M := mX8_degreeOf) (pc1 := 87) dX8_firstLeft_84 rfl lkX8_70 tmX8_degreeOf rfl (r_degreeOf x n nr ot (cf, sf) F W L T V P hg hn (v := i) (by omega)) (Nat.le_of_ble_eq_true rfl) rfl (Nat.le_of_ble_eq_true rfl) (Nat.le_of_ble_eq_true rfl) ?_
                  rintro _ _ ⟨rfl, rfl⟩
                  refine g_aload_n (i := 0) (pc1 := 88) dX8_firstLeft_87 rfl rfl rfl ?_
                  refine g_iload_n (i := 2) (pc1 := 89) dX8_firstLeft_88 rfl rfl rfl ?_
                  refine g_V1 (M := mX8_degreeOf) (pc1 := 92) dX8_firstLeft_89 rfl lkX8_70 tmX8_degreeOf rfl (r_degreeOf x n nr ot (cf, sf) F W L T V P hg hn (v := b) (by omega)) (Nat.le_of_ble_eq_true rfl) rfl (Nat.le_of_ble_eq_true rfl) (Nat.le_of_ble_eq_true rfl) ?_
                  rintro _ _ ⟨rfl, rfl⟩
                  show aGo _ 92 _ [.int (nI (dg A n b)), .int (nI (dg A n i))] _ _ _
                  refine g_icmp_le (pc1 := 95) (tgt := 99) dX8_firstLeft_92 rfl (by decide) (fun c5 => ?_) (fun c5 => ?_)
                  · have := (nI_leI (a := dg A n i) (b := dg A n b) (by omega) (by omega)).mp c5
                    exact no (fun q => by rcases hcb.mp q with q | q <;> omega)
                  · have : ¬ dg A n i ≤ dg A n b := fun q => c5 ((nI_leI (a := dg A n i) (b := dg A n b) (by omega) (by omega)).mpr q)
                    exact yes (hcb.mpr (Or.inr ⟨h4, by omega⟩))
          refine g_iload_n (i := 1) (pc1 := 31) dX8_firstLeft_30 rfl rfl rfl ?_
          cases st with
          | false =>
            refine g_if_eq (pc1 := 34) (tgt := 42) dX8_firstLeft_31 rfl (by decide) (fun _ => ?_) (fun hbr9 => absurd rfl hbr9)
            refine g_iconst (v := 0) (pc1 := 43) dX8_firstLeft_42 rfl (by decide) ?_
            refine g_istore (pc1 := 45) dX8_firstLeft_43 rfl (Nat.le_of_ble_eq_true rfl) ?_
            refine g_iload_n (i := 1) (pc1 := 46) dX8_firstLeft_45 rfl rfl rfl ?_
            refine g_if_eq (pc1 := 49) (tgt := 61) dX8_firstLeft_46 rfl (by decide) (fun _ => ?_) (fun hbr9 => absurd rfl hbr9)
            refine g_iconst (v := 0) (pc1 := 62) dX8_firstLeft_61 rfl (by decide) ?_
            refine g_istore (pc1 := 64) dX8_firstLeft_62 rfl (Nat.le_of_ble_eq_true rfl) ?_
            exact cmp 0 0 (by omega) (by omega) (fun b _ => by show dg A n b < dg A n i ↔ _; omega)
          | true =>
            refine g_if_eq (pc1 := 34) (tgt := 42) dX8_firstLeft_31 rfl (by decide) (fun hbr9 => absurd hbr9 (by decide)) (fun _ => ?_)
            refine g_aload_n (i := 0) (pc1 := 35) dX8_firstLeft_34 rfl rfl rfl ?_
            refine g_iload_n (i := 3) (pc1 := 36) dX8_firstLeft_35 rfl rfl rfl ?_
            refine g_V1 (M := mX8_saturationOf) (pc1 := 39) dX8_firstLeft_36 rfl lkX8_87 tmX8_saturationOf rfl (r_saturationOf x n nr ot cf sf F W L T V P hg hn hc h30 (v := i) (by omega)) (Nat.le_of_ble_eq_true rfl) rfl (Nat.le_of_ble_eq_true rfl) (Nat.le_of_ble_eq_true rfl) ?_
            rintro _ _ ⟨rfl, rfl⟩
            have hsi := sat_le n A col i
            refine g_goto (tgt := 43) dX8_firstLeft_39 (by decide) ?_
            refine g_istore (pc1 := 45) dX8_firstLeft_43 rfl (Nat.le_of_ble_eq_true rfl) ?_
            refine g_iload_n (i := 1) (pc1 := 46) dX8_firstLeft_45 rfl rfl rfl ?_
            refine g_if_eq (pc1 := 49) (tgt := 61) dX8_firstLeft_46 rfl (by decide) (fun hbr9 => absurd hbr9 (by decide)) (fun _ => ?_)
            refine g_iload_n (i := 2) (pc1 := 50) dX8_firstLeft_49 rfl rfl rfl ?_
            cases hb : amx (fun v => !sp v && brP n col v) (flF n A col true) i with
            | none =>
              rw [hb] at cmp
              refine g_if_lt (pc1 := 53) (tgt := 61) dX8_firstLeft_50 rfl (by decide) (fun _ => ?_) (fun hbr9 => absurd (by decide) hbr9)
              refine g_iconst (v := 0) (pc1 := 62) dX8_firstLeft_61 rfl (by decide) ?_
              refine g_istore (pc1 := 64) dX8_firstLeft_62 rfl (Nat.le_of_ble_eq_true rfl) ?_
              exact cmp (sat n A col i) 0 hsi (by omega) (fun b q => by cases q)
            | some b =>
              obtain ⟨g1, g2, -⟩ := amx_some hb
              rw [hb] at cmp
              have hsb := sat_le n A col b
              have d1 := hk.dg_lt hi
              have d2 := hk.dg_lt (show b < n by omega)
              refine g_if_lt (pc1 := 53) (tgt := 61) dX8_firstLeft_50 rfl (by decide) (fun hbr9 => absurd hbr9 (nI_pos (by omega))) (fun _ => ?_)
              show aGo _ 53 [.ref 24, .int (bI true), .int (nI b), .int (nI i), .int (nI (sat n A col i)), .null, .null] _ _ _ _
              refine g_aload_n (i := 0) (pc1 := 54) dX8_firstLeft_53 rfl rfl rfl ?_
              refine g_iload_n (i := 2) (pc1 := 55) dX8_firstLeft_54 rfl rfl rfl ?_
              refine g_V1 (M := mX8_saturationOf) (pc1 := 58) dX8_firstLeft_55 rfl lkX8_87 tmX8_saturationOf rfl (r_saturationOf x n nr ot cf sf F W L T V P hg hn hc h30 (v := b) (by omega)) (Nat.le_of_ble_eq_true rfl) rfl (Nat.le_of_ble_eq_true rfl) (Nat.le_of_ble_eq_true rfl) ?_
              rintro _ _ ⟨rfl, rfl⟩
              refine g_goto (tgt := 62) dX8_firstLeft_58 (by decide) ?_
              refine g_istore (pc1 := 64) dX8_firstLeft_62 rfl (Nat.le_of_ble_eq_true rfl) ?_
              exact cmp (sat n A col i) (sat n A col b) hsi hsb (fun b' q => by
                cases q
                show sat n A col b * 30 + dg A n b < sat n A col i * 30 + dg A n i ↔ _
                omega)
  exact key hR.symm
end
