/-! ===== the colouring of the class: what it answers ===== -/
def nbW (n : Nat) (A : Nat → Nat → Bool) (col : tCol) (v c : Nat) : Nat := lst (fun w => A v w && decide (col w = some c)) n
def enL (n w : Nat) : Int32 := if w < n then nI w else -1
def lu (n : Nat) (A : Nat → Nat → Bool) (col : tCol) (v : Nat) : Nat := lst (fun c => !hC n A col v c) 29
def fgS (n : Nat) (A : Nat → Nat → Bool) : Nat → tCol × Nat
  | 0 => (fun _ => none, 0)
  | i + 1 => match chS n A (fgS n A i).1 with
    | none => fgS n A i
    | some v => (cset (fgS n A i).1 v (lu n A (fgS n A i).1 v), up1 (fgS n A i).2 (lu n A (fgS n A i).1 v))
theorem lst_min {p : Nat → Bool} {n w : Nat} (hp : p w = true) : lst p n ≤ w := by
  rcases Nat.lt_or_ge w (lst p n) with h | h
  · rw [(lst_spec p n).1 w h] at hp; cases hp
  · exact h
theorem lu_le {n u : Nat} {A : Nat → Nat → Bool} {col : tCol} (h : Cok n col u) (v : Nat) : lu n A col v ≤ u := lst_min (by rw [hC_big h (Nat.le_refl _)]; rfl)
theorem lu_lt (n : Nat) (A : Nat → Nat → Bool) (col : tCol) (v : Nat) : lu n A col v < 30 := by have := lst_le (fun c => !hC n A col v c) 29; unfold lu; omega
theorem chS_some {n : Nat} {A : Nat → Nat → Bool} {col : tCol} {v : Nat} (h : chS n A col = some v) : v < n ∧ col v = none := by
  have h1 := amx_some h
  refine ⟨h1.1, ?_⟩
  have h2 := h1.2.1
  unfold brP at h2
  simp only [Bool.and_eq_true, Option.isNone_iff_eq_none] at h2
  exact h2.2
theorem chS_none {n : Nat} {A : Nat → Nat → Bool} {col : tCol} (h : chS n A col = none) {v : Nat} (hv : v < n) : col v ≠ none := by
  have h1 := amx_none.mp h v hv
  intro hc
  simp [brP, hv, hc] at h1
theorem fgS_ok (n : Nat) (A : Nat → Nat → Bool) : ∀ i, Cok n (fgS n A i).1 (fgS n A i).2
  | 0 => Cok.none n
  | i + 1 => by
    have ih := fgS_ok n A i
    unfold fgS
    cases h : chS n A (fgS n A i).1 with
    | none => exact ih
    | some v =>
      obtain ⟨h1, h2⟩ := chS_some h
      exact ih.set h1 h2 (lu_le ih v) (lu_lt _ _ _ _)
section
variable (n : Nat) (nr tn : fI) (K : tK) (S : tS) (L1 : tL) (U : tU) (L2 L3 : tL) (C : Int32 × Int32) (P : fI) (r : List aC)
theorem c_blocked {A : Nat → Nat → Bool} {col : tCol} {u v c : Nat} (hK : kC K n A col u) (hv : v < 30) (hc : c < 32) : aRet 1 0 0 mX1_blocked [.ref 4, .int (nI v), .int (nI c)] (cp (nI n, nr, tn) K S L1 U L2 L3 C P r) (fun x g => x = some (.int (bI (hC n A col v c))) ∧ g = cp (nI n, nr, tn) K S L1 U L2 L3 C P r) := by
  refine aRet.of (by decide) (Nat.le_of_ble_eq_true rfl) (a_ok2 rfl) ?_
  refine g_aload_n (i := 0) (pc1 := 1) dX1_blocked_0 rfl rfl rfl ?_
  refine g_get (pc1 := 4) dX1_blocked_1 rfl flX1_15 rfl rfl ?_
  refine g_iload_n (i := 1) (pc1 := 5) dX1_blocked_4 rfl rfl rfl ?_
  refine g_ialdJ (pc1 := 6) dX1_blocked_5 rfl rfl rfl hv (by decide) ?_
  refine g_iload_n (i := 2) (pc1 := 7) dX1_blocked_6 rfl rfl rfl ?_
  refine g_SN2 (M := mX7_contains) (pc1 := 10) dX1_blocked_7 rfl ⟨rfl, lnX1_50⟩ tmX7_contains (c_contains _ hc) (Nat.le_of_ble_eq_true rfl) rfl (Nat.le_of_ble_eq_true rfl) (Nat.le_of_ble_eq_true rfl) ?_
  rintro _ _ ⟨rfl, rfl⟩
  refine g_iret dX1_blocked_10 rfl (bI_nar _) (Nat.le_of_ble_eq_true rfl) (Nat.le_of_ble_eq_true rfl) ?_
  refine ⟨?_, rfl⟩
  rw [hK.2.1 v hv, bt_bS]
  simp [hc]
theorem c_leastNeighbourWith {A : Nat → Nat → Bool} (hg : hG n nr tn A) (hk : Gok n A) {col : tCol} {u v c : Nat} (hK : kC K n A col u) (hv : v < 30) (hc : c < 30) : aRet 1 0 0 mX1_leastNeighbourWith [.ref 4, .int (nI v), .int (nI c)] (cp (nI n, nr, tn) K S L1 U L2 L3 C P r) (fun x g => x = some (.int (enL n (nbW n A col v c))) ∧ g = cp (nI n, nr, tn) K S L1 U L2 L3 C P r) := by
  have hn := hk.1
  refine aRet.of (by decide) (Nat.le_of_ble_eq_true rfl) (a_ok2 rfl) ?_
  refine g_iconst (v := 0) (pc1 := 1) dX1_leastNeighbourWith_0 rfl (by decide) ?_
  refine g_istore_n (i := 3) (pc1 := 2) dX1_leastNeighbourWith_1 rfl rfl (Nat.le_of_ble_eq_true rfl) ?_
  have key : ∀ i, i ≤ n → (∀ j, j < i → (A v j && decide (col j = some c)) = false) → aGo (1, 0, 0, mX1_leastNeighbourWith, none, fun x g => x = some (.int (enL n (nbW n A col v c))) ∧ g = cp (nI n, nr, tn) K S L1 U L2 L3 C P r) 2 [.ref 4, .int (nI v), .int (nI c), .int (nI i)] [] (cp (nI n, nr, tn) K S L1 U L2 L3 C P r) 0 0 := by
    refine down (P := fun i => (∀ j, j < i → (A v j && decide (col j = some c)) = false) → aGo _ 2 [.ref 4, .int (nI v), .int (nI c), .int (nI i)] [] (cp (nI n, nr, tn) K S L1 U L2 L3 C P r) 0 0) ?_ ?_
    · intro hno
      refine g_iload_n (i := 3) (pc1 := 3) dX1_leastNeighbourWith_2 rfl rfl rfl ?_
      refine g_aload_n (i := 0) (pc1 := 4) dX1_leastNeighbourWith_3 rfl rfl rfl ?_
      refine g_get (pc1 := 7) dX1_leastNeighbourWith_4 rfl flX1_28 rfl rfl ?_
      refine g_get (pc1 := 10) dX1_leastNeighbourWith_7 rfl flX1_44 rfl rfl ?_
      refine g_icmp_ge (pc1 := 13) (tgt := 44) dX1_leastNeighbourWith_10 rfl (by decide) (fun _ => ?_) (fun c => absurd (Int32.le_refl _) c)
      refine g_iconst (v := (-1)) (pc1 := 45) dX1_leastNeighbourWith_44 rfl (by decide) ?_
      refine g_iret dX1_leastNeighbourWith_45 rfl rfl (Nat.le_of_ble_eq_true rfl) (Nat.le_of_ble_eq_true rfl) ?_
      refine ⟨?_, rfl⟩
      rw [show nbW n A col v c = n from lst_none hno]
      simp [enL]
    · intro i hi ih hno
      refine g_iload_n (i := 3) (pc1 := 3) dX1_leastNeighbourWith_2 rfl rfl rfl ?_
      refine g_aload_n (i := 0) (pc1 := 4) dX1_leastNeighbourWith_3 rfl rfl rfl ?_
      refine g_get (pc1 := 7) dX1_leastNeighbourWith_4 rfl flX1_28 rfl rfl ?_
      refine g_get (pc1 := 10) dX1_leastNeighbourWith_7 rfl flX1_44 rfl rfl ?_
      refine g_icmp_ge (pc1 := 13) (tgt := 44) dX1_leastNeighbourWith_10 rfl (by decide) (fun c => absurd c (fun c => absurd ((nI_leI (a := n) (b := i) (by omega) (by omega)).mp c) (by omega))) (fun _ => ?_)
      refine g_aload_n (i := 0) (pc1 := 14) dX1_leastNeighbourWith_13 rfl rfl rfl ?_
      refine g_get (pc1 := 17) dX1_leastNeighbourWith_14 rfl flX1_28 rfl rfl ?_
      refine g_get (pc1 := 20) dX1_leastNeighbourWith_17 rfl flX1_47 rfl rfl ?_
      refine g_iload_n (i := 1) (pc1 := 21) dX1_leastNeighbourWith_20 rfl rfl rfl ?_
      refine g_ialdJ (pc1 := 22) dX1_leastNeighbourWith_21 rfl rfl rfl hv (by decide) ?_
      refine g_aload_n (i := 0) (pc1 := 23) dX1_leastNeighbourWith_22 rfl rfl rfl ?_
      refine g_get (pc1 := 26) dX1_leastNeighbourWith_23 rfl flX1_18 rfl rfl ?_
      refine g_iload_n (i := 2) (pc1 := 27) dX1_leastNeighbourWith_26 rfl rfl rfl ?_
      refine g_ialdJ (pc1 := 28) dX1_leastNeighbourWith_27 rfl rfl rfl hc (by decide) ?_
      refine g_iand (pc1 := 29) dX1_leastNeighbourWith_28 rfl ?_
      refine g_iload_n (i := 3) (pc1 := 30) dX1_leastNeighbourWith_29 rfl rfl rfl ?_
      dsimp only
      rw [hK.2.2.1 c hc, show nr v = bS (A v) from hg.row hv, bS_and]
      refine g_SN2 (M := mX7_contains) (pc1 := 33) dX1_leastNeighbourWith_30 rfl ⟨rfl, lnX1_50⟩ tmX7_contains (c_contains _ (j := i) (by omega)) (Nat.le_of_ble_eq_true rfl) rfl (Nat.le_of_ble_eq_true rfl) (Nat.le_of_ble_eq_true rfl) ?_
      rintro _ _ ⟨rfl, rfl⟩
      have hb : bt (bS fun j => A v j && decide (col j = some c)) i = (A v i && decide (col i = some c)) := by rw [bt_bS]; simp [show i < 32 by omega]
      rw [hb]
      refine g_if_eq (pc1 := 36) (tgt := 38) dX1_leastNeighbourWith_33 rfl (by decide) (fun c9 => ?_) (fun c9 => ?_)
      · rw [bI_eq0] at c9
        refine g_iinc (pc1 := 41) dX1_leastNeighbourWith_38 rfl rfl rfl ?_
        refine g_goto (tgt := 2) dX1_leastNeighbourWith_41 (by decide) ?_
        refine aGo.eq (ih fun j hj => ?_) ?_ rfl rfl
        · by_cases hji : j = i
          · subst hji; exact c9
          · exact hno j (by omega)
        · show [Value.ref 4, .int (nI v), .int (nI c), .int (nI i + Int32.ofInt 1)] = _
          rw [show nI i + Int32.ofInt 1 = nI (i + 1) from nI_1 i]
      · rw [bI_ne0] at c9
        refine g_iload_n (i := 3) (pc1 := 37) dX1_leastNeighbourWith_36 rfl rfl rfl ?_
        refine g_iret dX1_leastNeighbourWith_37 rfl rfl (Nat.le_of_ble_eq_true rfl) (Nat.le_of_ble_eq_true rfl) ?_
        refine ⟨?_, rfl⟩
        rw [show nbW n A col v c = i from lst_eq hno hi c9]
        simp [enL, hi]
  exact key 0 (Nat.zero_le _) (fun j hj => absurd hj (Nat.not_lt_zero j))
theorem c_freeWith {A : Nat → Nat → Bool} {col : tCol} {u v k : Nat} (hK : kC K n A col u) (hv : v < 30) (hk : k ≤ 30) : aRet 1 0 0 mX1_freeWith [.ref 4, .int (nI v), .int (nI k)] (cp (nI n, nr, tn) K S L1 U L2 L3 C P r) (fun x g => x = some (.int (bS (fun c => decide (c < k) && !hC n A col v c))) ∧ g = cp (nI n, nr, tn) K S L1 U L2 L3 C P r) := by
  refine aRet.of (by decide) (Nat.le_of_ble_eq_true rfl) (a_ok2 rfl) ?_
  refine g_iload_n (i := 2) (pc1 := 1) dX1_freeWith_0 rfl rfl rfl ?_
  refine g_SN1 (M := mX7_firstOnes) (pc1 := 4) dX1_freeWith_1 rfl ⟨rfl, lnX1_54⟩ tmX7_firstOnes (c_firstOnes hk) (Nat.le_of_ble_eq_true rfl) rfl (Nat.le_of_ble_eq_true rfl) (Nat.le_of_ble_eq_true rfl) ?_
  rintro _ _ ⟨rfl, rfl⟩
  show aGo _ 4 _ [.int _] _ _ _
  refine g_aload_n (i := 0) (pc1 := 5) dX1_freeWith_4 rfl rfl rfl ?_
  refine g_get (pc1 := 8) dX1_freeWith_5 rfl flX1_15 rfl rfl ?_
  refine g_iload_n (i := 1) (pc1 := 9) dX1_freeWith_8 rfl rfl rfl ?_
  refine g_ialdJ (pc1 := 10) dX1_freeWith_9 rfl rfl rfl hv (by decide) ?_
  refine g_iconst (v := (-1)) (pc1 := 11) dX1_freeWith_10 rfl (by decide) ?_
  refine g_ixor (pc1 := 12) dX1_freeWith_11 rfl ?_
  refine g_iand (pc1 := 13) dX1_freeWith_12 rfl ?_
  rw [hK.2.1 v hv, bS_not, bS_and]
  refine g_iret dX1_freeWith_13 rfl rfl (Nat.le_of_ble_eq_true rfl) (Nat.le_of_ble_eq_true rfl) ?_
  exact ⟨rfl, rfl⟩
theorem c_rank {A : Nat → Nat → Bool} {col : tCol} {u v s : Nat} (hn : n ≤ 30) (hK : kC K n A col u) (hc : Cok n col u) (hv : v < 30) : aRet 1 0 0 mX1_rank [.ref 4, .int (nI v), .int (nI s)] (cp (nI n, nr, tn) K S L1 U L2 L3 C P r) (fun x g => x = some (.int (nI (sat n A col v * 30 + s))) ∧ g = cp (nI n, nr, tn) K S L1 U L2 L3 C P r) := by
  refine aRet.of (by decide) (Nat.le_of_ble_eq_true rfl) (a_ok2 rfl) ?_
  refine g_aload_n (i := 0) (pc1 := 1) dX1_rank_0 rfl rfl rfl ?_
  refine g_get (pc1 := 4) dX1_rank_1 rfl flX1_15 rfl rfl ?_
  refine g_iload_n (i := 1) (pc1 := 5) dX1_rank_4 rfl rfl rfl ?_
  refine g_ialdJ (pc1 := 6) dX1_rank_5 rfl rfl rfl hv (by decide) ?_
  refine g_S1 (M := mJ6_bitCount_0f7a4) (pc1 := 9) dX1_rank_6 rfl lkX1_58 tmJ6_bitCount_0f7a4 (c_bitCount _) (Nat.le_of_ble_eq_true rfl) rfl (Nat.le_of_ble_eq_true rfl) (Nat.le_of_ble_eq_true rfl) ?_
  rintro _ _ ⟨rfl, rfl⟩
  show aGo _ 9 _ [.int _] _ _ _
  refine g_bipush (v := 30) (pc1 := 11) dX1_rank_9 rfl (by decide) ?_
  refine g_imul (pc1 := 12) dX1_rank_11 rfl ?_
  refine g_iload_n (i := 2) (pc1 := 13) dX1_rank_12 rfl rfl rfl ?_
  refine g_iadd (pc1 := 14) dX1_rank_13 rfl ?_
  rw [hK.2.1 v hv, cnt_bS, sat_32 hc hn, show (30 : Int32) = nI 30 from rfl, pk_mul, nI_add]
  refine g_iret dX1_rank_14 rfl rfl (Nat.le_of_ble_eq_true rfl) (Nat.le_of_ble_eq_true rfl) ?_
  exact ⟨rfl, rfl⟩
set_option maxHeartbeats 1000000 in
theorem c_choice {A : Nat → Nat → Bool} (hg : hG n nr tn A) (hk : Gok n A) {col : tCol} {u : Nat} (hK : kC K n A col u) (hc : Cok n col u) : aRet 2 0 0 mX1_choice [.ref 4] (cp (nI n, nr, tn) K S L1 U L2 L3 C P r) (fun x g => x = some (.int (enO (chS n A col))) ∧ g = cp (nI n, nr, tn) K S L1 U L2 L3 C P r) := by
  have hn := hk.1
  have hF : ∀ i, chF n A col i ≤ 930 := fun i => by
    have h1 := sat_le n A col i
    have h2 := bnN_le n A col i
    unfold chF; omega
  refine aRet.of (by decide) (Nat.le_of_ble_eq_true rfl) (a_ok2 rfl) ?_
  refine g_iconst (v := (-1)) (pc1 := 1) dX1_choice_0 rfl (by decide) ?_
  refine g_istore_n (i := 1) (pc1 := 2) dX1_choice_1 rfl rfl (Nat.le_of_ble_eq_true rfl) ?_
  refine g_iconst (v := (-1)) (pc1 := 3) dX1_choice_2 rfl (by decide) ?_
  refine g_istore_n (i := 2) (pc1 := 4) dX1_choice_3 rfl rfl (Nat.le_of_ble_eq_true rfl) ?_
  refine g_iconst (v := 0) (pc1 := 5) dX1_choice_4 rfl (by decide) ?_
  refine g_istore_n (i := 3) (pc1 := 6) dX1_choice_5 rfl rfl (Nat.le_of_ble_eq_true rfl) ?_
  refine down0 (P := fun i => aGo _ 6 [.ref 4, .int (enO (amx (brP n col) (chF n A col) i)), .int (enG (chF n A col) (amx (brP n col) (chF n A col) i)), .int (nI i), .null] [] (cp (nI n, nr, tn) K S L1 U L2 L3 C P r) 0 0) n ?_ ?_
  · refine g_iload_n (i := 3) (pc1 := 7) dX1_choice_6 rfl rfl rfl ?_
    refine g_aload_n (i := 0) (pc1 := 8) dX1_choice_7 rfl rfl rfl ?_
    refine g_get (pc1 := 11) dX1_choice_8 rfl flX1_28 rfl rfl ?_
    refine g_get (pc1 := 14) dX1_choice_11 rfl flX1_44 rfl rfl ?_
    refine g_icmp_ge (pc1 := 17) (tgt := 69) dX1_choice_14 rfl (by decide) (fun _ => ?_) (fun c => absurd (Int32.le_refl _) c)
    refine g_iload_n (i := 1) (pc1 := 70) dX1_choice_69 rfl rfl rfl ?_
    refine g_iret dX1_choice_70 rfl rfl (Nat.le_of_ble_eq_true rfl) (Nat.le_of_ble_eq_true rfl) ?_
    exact ⟨rfl, rfl⟩
  · intro i hi ih
    refine g_iload_n (i := 3) (pc1 := 7) dX1_choice_6 rfl rfl rfl ?_
    refine g_aload_n (i := 0) (pc1 := 8) dX1_choice_7 rfl rfl rfl ?_
    refine g_get (pc1 := 11) dX1_choice_8 rfl flX1_28 rfl rfl ?_
    refine g_get (pc1 := 14) dX1_choice_11 rfl flX1_44 rfl rfl ?_
    refine g_icmp_ge (pc1 := 17) (tgt := 69) dX1_choice_14 rfl (by decide) (fun c => absurd c (fun c => absurd ((nI_leI (a := n) (b := i) (by omega) (by omega)).mp c) (by omega))) (fun _ => ?_)
    refine g_aload_n (i := 0) (pc1 := 18) dX1_choice_17 rfl rfl rfl ?_
    refine g_get (pc1 := 21) dX1_choice_18 rfl flX1_21 rfl rfl ?_
    refine g_iload_n (i := 3) (pc1 := 22) dX1_choice_21 rfl rfl rfl ?_
    rw [hK.2.2.2.1]
    refine g_SN2 (M := mX7_contains) (pc1 := 25) dX1_choice_22 rfl ⟨rfl, lnX1_50⟩ tmX7_contains (c_contains _ (j := i) (by omega)) (Nat.le_of_ble_eq_true rfl) rfl (Nat.le_of_ble_eq_true rfl) (Nat.le_of_ble_eq_true rfl) ?_
    rintro _ _ ⟨rfl, rfl⟩
    have hb : bt (bS (brP n col)) i = brP n col i := by rw [bt_bS]; simp [show i < 32 by omega]
    rw [hb]
    have e0 : amx (brP n col) (chF n A col) (i + 1) = if brP n col i = true then (match amx (brP n col) (chF n A col) i with
          | none => some i
          | some b => if chF n A col b < chF n A col i then some i else some b) else amx (brP n col) (chF n A col) i := rfl
    refine g_if_eq (pc1 := 28) (tgt := 63) dX1_choice_25 rfl (by decide) (fun c9 => ?_) (fun c9 => ?_)
    · rw [bI_eq0] at c9
      refine g_iinc (pc1 := 66) dX1_choice_63 rfl rfl rfl ?_
      refine g_goto (tgt := 6) dX1_choice_66 (by decide) ?_
      refine aGo.eq ih ?_ rfl rfl
      show [Value.ref 4, .int (enO (amx (brP n col) (chF n A col) i)), .int (enG (chF n A col) (amx (brP n col) (chF n A col) i)), .int (nI i + Int32.ofInt 1), .null] = _
      rw [c9] at e0
      rw [show nI i + Int32.ofInt 1 = nI (i + 1) from nI_1 i, e0]
      rfl
    · rw [bI_ne0] at c9
      rw [if_pos c9] at e0
      refine g_aload_n (i := 0) (pc1 := 29) dX1_choice_28 rfl rfl rfl ?_
      refine g_iload_n (i := 3) (pc1 := 30) dX1_choice_29 rfl rfl rfl ?_
      refine g_aload_n (i := 0) (pc1 := 31) dX1_choice_30 rfl rfl rfl ?_
      refine g_get (pc1 := 34) dX1_choice_31 rfl flX1_28 rfl rfl ?_
      refine g_get (pc1 := 37) dX1_choice_34 rfl flX1_47 rfl rfl ?_
      refine g_iload_n (i := 3) (pc1 := 38) dX1_choice_37 rfl rfl rfl ?_
      refine g_ialdJ (pc1 := 39) dX1_choice_38 rfl rfl rfl (by omega) (by decide) ?_
      refine g_aload_n (i := 0) (pc1 := 40) dX1_choice_39 rfl rfl rfl ?_
      refine g_get (pc1 := 43) dX1_choice_40 rfl flX1_21 rfl rfl ?_
      refine g_iand (pc1 := 44) dX1_choice_43 rfl ?_
      dsimp only
      rw [hK.2.2.2.1, show nr i = bS (A i) from hg.row (by omega), bS_and]
      refine g_S1 (M := mJ6_bitCount_0f7a4) (pc1 := 47) dX1_choice_44 rfl lkX1_58 tmJ6_bitCount_0f7a4 (c_bitCount _) (Nat.le_of_ble_eq_true rfl) rfl (Nat.le_of_ble_eq_true rfl) (Nat.le_of_ble_eq_true rfl) ?_
      rintro _ _ ⟨rfl, rfl⟩
      have e1 : cnt (bt (bS fun j => A i j && brP n col j)) 32 = bnN n A col i := by
        rw [cnt_bS]
        rw [cnt_more (n := n) (by omega) (fun j h1 _ => by rw [hk.out h1]; rfl)]
        exact cnt_congr fun j hj => by simp [brP, hj]
      rw [e1]
      show aGo _ 47 _ [.int _, .int _, .ref 4] _ _ _
      refine g_V2 (M := mX1_rank) (pc1 := 50) dX1_choice_47 rfl lkX1_63 tmX1_rank rfl (c_rank n nr tn K S L1 U L2 L3 C P r hn hK hc (v := i) (s := bnN n A col i) (by omega)) (Nat.le_of_ble_eq_true rfl) rfl (Nat.le_of_ble_eq_true rfl) (Nat.le_of_ble_eq_true rfl) ?_
      rintro _ _ ⟨rfl, rfl⟩
      have hfi := hF i
      refine g_istore (pc1 := 52) dX1_choice_50 rfl (Nat.le_of_ble_eq_true rfl) ?_
      refine g_iload (pc1 := 54) dX1_choice_52 rfl rfl ?_
      refine g_iload_n (i := 2) (pc1 := 55) dX1_choice_54 rfl rfl rfl ?_
      refine g_icmp_le (pc1 := 58) (tgt := 63) dX1_choice_55 rfl (by decide) (fun c2 => ?_) (fun c2 => ?_)
      · have e2 : amx (brP n col) (chF n A col) (i + 1) = amx (brP n col) (chF n A col) i := by
          rw [e0]
          cases h1 : amx (brP n col) (chF n A col) i with
          | none => rw [h1] at c2; exact absurd c2 (nI_m1_lt (by unfold chF at hfi; omega))
          | some b =>
            rw [h1] at c2
            have hfb := hF b
            have h3 := (nI_leI (a := chF n A col i) (b := chF n A col b) (by omega) (by omega)).mp c2
            show (if chF n A col b < chF n A col i then _ else _) = _
            rw [if_neg (by omega)]
        refine g_iinc (pc1 := 66) dX1_choice_63 rfl rfl rfl ?_
        refine g_goto (tgt := 6) dX1_choice_66 (by decide) ?_
        refine aGo.forget 4 ?_
        refine aGo.eq ih ?_ rfl rfl
        show [Value.ref 4, .int (enO (amx (brP n col) (chF n A col) i)), .int (enG (chF n A col) (amx (brP n col) (chF n A col) i)), .int (nI i + Int32.ofInt 1), .null] = _
        rw [show nI i + Int32.ofInt 1 = nI (i + 1) from nI_1 i, e2]
      · have e2 : amx (brP n col) (chF n A col) (i + 1) = some i := by
          rw [e0]
          cases h1 : amx (brP n col) (chF n A col) i with
          | none => rfl
          | some b =>
            rw [h1] at c2
            have hfb := hF b
            have h3 : ¬ chF n A col i ≤ chF n A col b := fun q => c2 ((nI_leI (by unfold chF at hfi; omega) (by omega)).mpr q)
            show (if chF n A col b < chF n A col i then _ else _) = _
            rw [if_pos (by omega)]
        refine g_iload_n (i := 3) (pc1 := 59) dX1_choice_58 rfl rfl rfl ?_
        refine g_istore_n (i := 1) (pc1 := 60) dX1_choice_59 rfl rfl (Nat.le_of_ble_eq_true rfl) ?_
        refine g_iload (pc1 := 62) dX1_choice_60 rfl rfl ?_
        refine g_istore_n (i := 2) (pc1 := 63) dX1_choice_62 rfl rfl (Nat.le_of_ble_eq_true rfl) ?_
        refine g_iinc (pc1 := 66) dX1_choice_63 rfl rfl rfl ?_
        refine g_goto (tgt := 6) dX1_choice_66 (by decide) ?_
        refine aGo.forget 4 ?_
        refine aGo.eq ih ?_ rfl rfl
        show [Value.ref 4, .int (nI i), .int (nI (chF n A col i)), .int (nI i + Int32.ofInt 1), .null] = _
        rw [show nI i + Int32.ofInt 1 = nI (i + 1) from nI_1 i, e2]
        rfl
set_option maxHeartbeats 1000000 in
theorem c_foremost {A : Nat → Nat → Bool} (hg : hG n nr tn A) (hk : Gok n A) {col : tCol} {u : Nat} (hK : kC K n A col u) (hc : Cok n col u) (p : Nat → Bool) : aRet 2 0 0 mX1_foremost [.ref 4, .int (bS p)] (cp (nI n, nr, tn) K S L1 U L2 L3 C P r) (fun x g => x = some (.int (enO (amx p (foF n A col) n))) ∧ g = cp (nI n, nr, tn) K S L1 U L2 L3 C P r) := by
  have hn := hk.1
  have hF : ∀ i, foF n A col i ≤ 930 := fun i => by
    have h1 := sat_le n A col i
    have h2 := dg_le A n i
    unfold foF; omega
  refine aRet.of (by decide) (Nat.le_of_ble_eq_true rfl) (a_ok2 rfl) ?_
  refine g_iconst (v := (-1)) (pc1 := 1) dX1_foremost_0 rfl (by decide) ?_
  refine g_istore_n (i := 2) (pc1 := 2) dX1_foremost_1 rfl rfl (Nat.le_of_ble_eq_true rfl) ?_
  refine g_iconst (v := (-1)) (pc1 := 3) dX1_foremost_2 rfl (by decide) ?_
  refine g_istore_n (i := 3) (pc1 := 4) dX1_foremost_3 rfl rfl (Nat.le_of_ble_eq_true rfl) ?_
  refine g_iconst (v := 0) (pc1 := 5) dX1_foremost_4 rfl (by decide) ?_
  refine g_istore (pc1 := 7) dX1_foremost_5 rfl (Nat.le_of_ble_eq_true rfl) ?_
  refine down0 (P := fun i => aGo _ 7 [.ref 4, .int (bS p), .int (enO (amx p (foF n A col) i)), .int (enG (foF n A col) (amx p (foF n A col) i)), .int (nI i), .null] [] (cp (nI n, nr, tn) K S L1 U L2 L3 C P r) 0 0) n ?_ ?_
  · refine g_iload (pc1 := 9) dX1_foremost_7 rfl rfl ?_
    refine g_aload_n (i := 0) (pc1 := 10) dX1_foremost_9 rfl rfl rfl ?_
    refine g_get (pc1 := 13) dX1_foremost_10 rfl flX1_28 rfl rfl ?_
    refine g_get (pc1 := 16) dX1_foremost_13 rfl flX1_44 rfl rfl ?_
    refine g_icmp_ge (pc1 := 19) (tgt := 63) dX1_foremost_16 rfl (by decide) (fun _ => ?_) (fun c => absurd (Int32.le_refl _) c)
    refine g_iload_n (i := 2) (pc1 := 64) dX1_foremost_63 rfl rfl rfl ?_
    refine g_iret dX1_foremost_64 rfl rfl (Nat.le_of_ble_eq_true rfl) (Nat.le_of_ble_eq_true rfl) ?_
    exact ⟨rfl, rfl⟩
  · intro i hi ih
    refine g_iload (pc1 := 9) dX1_foremost_7 rfl rfl ?_
    refine g_aload_n (i := 0) (pc1 := 10) dX1_foremost_9 rfl rfl rfl ?_
    refine g_get (pc1 := 13) dX1_foremost_10 rfl flX1_28 rfl rfl ?_
    refine g_get (pc1 := 16) dX1_foremost_13 rfl flX1_44 rfl rfl ?_
    refine g_icmp_ge (pc1 := 19) (tgt := 63) dX1_foremost_16 rfl (by decide) (fun c => absurd c (fun c => absurd ((nI_leI (a := n) (b := i) (by omega) (by omega)).mp c) (by omega))) (fun _ => ?_)
    refine g_iload_n (i := 1) (pc1 := 20) dX1_foremost_19 rfl rfl rfl ?_
    refine g_iload (pc1 := 22) dX1_foremost_20 rfl rfl ?_
    refine g_SN2 (M := mX7_contains) (pc1 := 25) dX1_foremost_22 rfl ⟨rfl, lnX1_50⟩ tmX7_contains (c_contains _ (j := i) (by omega)) (Nat.le_of_ble_eq_true rfl) rfl (Nat.le_of_ble_eq_true rfl) (Nat.le_of_ble_eq_true rfl) ?_
    rintro _ _ ⟨rfl, rfl⟩
    have hb : bt (bS p) i = p i := by rw [bt_bS]; simp [show i < 32 by omega]
    rw [hb]
    have e0 : amx p (foF n A col) (i + 1) = if p i = true then (match amx p (foF n A col) i with
          | none => some i
          | some b => if foF n A col b < foF n A col i then some i else some b) else amx p (foF n A col) i := rfl
    refine g_if_eq (pc1 := 28) (tgt := 57) dX1_foremost_25 rfl (by decide) (fun c9 => ?_) (fun c9 => ?_)
    · rw [bI_eq0] at c9
      refine g_iinc (pc1 := 60) dX1_foremost_57 rfl rfl rfl ?_
      refine g_goto (tgt := 7) dX1_foremost_60 (by decide) ?_
      refine aGo.eq ih ?_ rfl rfl
      show [Value.ref 4, .int (bS p), .int (enO (amx p (foF n A col) i)), .int (enG (foF n A col) (amx p (foF n A col) i)), .int (nI i + Int32.ofInt 1), .null] = _
      rw [c9] at e0
      rw [show nI i + Int32.ofInt 1 = nI (i + 1) from nI_1 i, e0]
      rfl
    · rw [bI_ne0] at c9
      rw [if_pos c9] at e0
      refine g_aload_n (i := 0) (pc1 := 29) dX1_foremost_28 rfl rfl rfl ?_
      refine g_iload (pc1 := 31) dX1_foremost_29 rfl rfl ?_
      refine g_aload_n (i := 0) (pc1 := 32) dX1_foremost_31 rfl rfl rfl ?_
      refine g_get (pc1 := 35) dX1_foremost_32 rfl flX1_28 rfl rfl ?_
      refine g_iload (pc1 := 37) dX1_foremost_35 rfl rfl ?_
      refine g_V1 (M := mX2_degreeOf) (pc1 := 40) dX1_foremost_37 rfl lkX1_67 tmX2_degreeOf rfl (c_degreeOf (nI n, nr, tn) K S L1 U L2 L3 C P r hg hk (v := i) (by omega)) (Nat.le_of_ble_eq_true rfl) rfl (Nat.le_of_ble_eq_true rfl) (Nat.le_of_ble_eq_true rfl) ?_
      rintro _ _ ⟨rfl, rfl⟩
      show aGo _ 40 _ [.int _, .int _, .ref 4] _ _ _
      refine g_V2 (M := mX1_rank) (pc1 := 43) dX1_foremost_40 rfl lkX1_63 tmX1_rank rfl (c_rank n nr tn K S L1 U L2 L3 C P r hn hK hc (v := i) (s := dg A n i) (by omega)) (Nat.le_of_ble_eq_true rfl) rfl (Nat.le_of_ble_eq_true rfl) (Nat.le_of_ble_eq_true rfl) ?_
      rintro _ _ ⟨rfl, rfl⟩
      have hfi := hF i
      refine g_istore (pc1 := 45) dX1_foremost_43 rfl (Nat.le_of_ble_eq_true rfl) ?_
      refine g_iload (pc1 := 47) dX1_foremost_45 rfl rfl ?_
      refine g_iload_n (i := 3) (pc1 := 48) dX1_foremost_47 rfl rfl rfl ?_
      refine g_icmp_le (pc1 := 51) (tgt := 57) dX1_foremost_48 rfl (by decide) (fun c2 => ?_) (fun c2 => ?_)
      · have e2 : amx p (foF n A col) (i + 1) = amx p (foF n A col) i := by
          rw [e0]
          cases h1 : amx p (foF n A col) i with
          | none => rw [h1] at c2; exact absurd c2 (nI_m1_lt (by unfold foF at hfi; omega))
          | some b =>
            rw [h1] at c2
            have hfb := hF b
            have h3 := (nI_leI (a := foF n A col i) (b := foF n A col b) (by omega) (by omega)).mp c2
            show (if foF n A col b < foF n A col i then _ else _) = _
            rw [if_neg (by omega)]
        refine g_iinc (pc1 := 60) dX1_foremost_57 rfl rfl rfl ?_
        refine g_goto (tgt := 7) dX1_foremost_60 (by decide) ?_
        refine aGo.forget 5 ?_
        refine aGo.eq ih ?_ rfl rfl
        show [Value.ref 4, .int (bS p), .int (enO (amx p (foF n A col) i)), .int (enG (foF n A col) (amx p (foF n A col) i)), .int (nI i + Int32.ofInt 1), .null] = _
        rw [show nI i + Int32.ofInt 1 = nI (i + 1) from nI_1 i, e2]
      · have e2 : amx p (foF n A col) (i + 1) = some i := by
          rw [e0]
          cases h1 : amx p (foF n A col) i with
          | none => rfl
          | some b =>
            rw [h1] at c2
            have hfb := hF b
            have h3 : ¬ foF n A col i ≤ foF n A col b := fun q => c2 ((nI_leI (by unfold foF at hfi; omega) (by omega)).mpr q)
            show (if foF n A col b < foF n A col i then _ else _) = _
            rw [if_pos (by omega)]
        refine g_iload (pc1 := 53) dX1_foremost_51 rfl rfl ?_
        refine g_istore_n (i := 2) (pc1 := 54) dX1_foremost_53 rfl rfl (Nat.le_of_ble_eq_true rfl) ?_
        refine g_iload (pc1 := 56) dX1_foremost_54 rfl rfl ?_
        refine g_istore_n (i := 3) (pc1 := 57) dX1_foremost_56 rfl rfl (Nat.le_of_ble_eq_true rfl) ?_
        refine g_iinc (pc1 := 60) dX1_foremost_57 rfl rfl rfl ?_
        refine g_goto (tgt := 7) dX1_foremost_60 (by decide) ?_
        refine aGo.forget 5 ?_
        refine aGo.eq ih ?_ rfl rfl
        show [Value.ref 4, .int (bS p), .int (nI i), .int (nI (foF n A col i)), .int (nI i + Int32.ofInt 1), .null] = _
        rw [show nI i + Int32.ofInt 1 = nI (i + 1) from nI_1 i, e2]
        rfl
theorem c_leastUnseen {A : Nat → Nat → Bool} {col : tCol} {u v : Nat} (hK : kC K n A col u) (hv : v < 30) : aRet 2 0 0 mX1_leastUnseen [.ref 4, .int (nI v)] (cp (nI n, nr, tn) K S L1 U L2 L3 C P r) (fun x g => x = some (.int (nI (lu n A col v))) ∧ g = cp (nI n, nr, tn) K S L1 U L2 L3 C P r) := by
  refine aRet.of (by decide) (Nat.le_of_ble_eq_true rfl) (a_ok2 rfl) ?_
  refine g_iconst (v := 0) (pc1 := 1) dX1_leastUnseen_0 rfl (by decide) ?_
  refine g_istore_n (i := 2) (pc1 := 2) dX1_leastUnseen_1 rfl rfl (Nat.le_of_ble_eq_true rfl) ?_
  have key : ∀ i, i ≤ 29 → (∀ j, j < i → (!hC n A col v j) = false) → aGo (2, 0, 0, mX1_leastUnseen, none, fun x g => x = some (.int (nI (lu n A col v))) ∧ g = cp (nI n, nr, tn) K S L1 U L2 L3 C P r) 2 [.ref 4, .int (nI v), .int (nI i)] [] (cp (nI n, nr, tn) K S L1 U L2 L3 C P r) 0 0 := by
    refine down (P := fun i => (∀ j, j < i → (!hC n A col v j) = false) → aGo _ 2 [.ref 4, .int (nI v), .int (nI i)] [] (cp (nI n, nr, tn) K S L1 U L2 L3 C P r) 0 0) ?_ ?_
    · intro hno
      refine g_iload_n (i := 2) (pc1 := 3) dX1_leastUnseen_2 rfl rfl rfl ?_
      refine g_bipush (v := 29) (pc1 := 5) dX1_leastUnseen_3 rfl (by decide) ?_
      refine g_icmp_ge (pc1 := 8) (tgt := 23) dX1_leastUnseen_5 rfl (by decide) (fun _ => ?_) (fun c => absurd (by decide) c)
      refine g_iload_n (i := 2) (pc1 := 24) dX1_leastUnseen_23 rfl rfl rfl ?_
      refine g_iret dX1_leastUnseen_24 rfl rfl (Nat.le_of_ble_eq_true rfl) (Nat.le_of_ble_eq_true rfl) ?_
      refine ⟨?_, rfl⟩
      rw [show lu n A col v = 29 from lst_none hno]
    · intro i hi ih hno
      refine g_iload_n (i := 2) (pc1 := 3) dX1_leastUnseen_2 rfl rfl rfl ?_
      refine g_bipush (v := 29) (pc1 := 5) dX1_leastUnseen_3 rfl (by decide) ?_
      refine g_icmp_ge (pc1 := 8) (tgt := 23) dX1_leastUnseen_5 rfl (by decide) (fun c => absurd c (fun c => absurd ((nI_leI (a := 29) (b := i) (by omega) (by omega)).mp c) (by omega))) (fun _ => ?_)
      refine g_aload_n (i := 0) (pc1 := 9) dX1_leastUnseen_8 rfl rfl rfl ?_
      refine g_iload_n (i := 1) (pc1 := 10) dX1_leastUnseen_9 rfl rfl rfl ?_
      refine g_iload_n (i := 2) (pc1 := 11) dX1_leastUnseen_10 rfl rfl rfl ?_
      refine g_V2 (M := mX1_blocked) (pc1 := 14) dX1_leastUnseen_11 rfl lkX1_83 tmX1_blocked rfl (c_blocked n nr tn K S L1 U L2 L3 C P r hK hv (c := i) (by omega)) (Nat.le_of_ble_eq_true rfl) rfl (Nat.le_of_ble_eq_true rfl) (Nat.le_of_ble_eq_true rfl) ?_
      rintro _ _ ⟨rfl, rfl⟩
      refine g_if_eq (pc1 := 17) (tgt := 23) dX1_leastUnseen_14 rfl (by decide) (fun c9 => ?_) (fun c9 => ?_)
      · rw [bI_eq0] at c9
        refine g_iload_n (i := 2) (pc1 := 24) dX1_leastUnseen_23 rfl rfl rfl ?_
        refine g_iret dX1_leastUnseen_24 rfl rfl (Nat.le_of_ble_eq_true rfl) (Nat.le_of_ble_eq_true rfl) ?_
        refine ⟨?_, rfl⟩
        rw [show lu n A col v = i from lst_eq hno hi (by rw [c9]; rfl)]
      · rw [bI_ne0] at c9
        refine g_iinc (pc1 := 20) dX1_leastUnseen_17 rfl rfl rfl ?_
        refine g_goto (tgt := 2) dX1_leastUnseen_20 (by decide) ?_
        refine aGo.eq (ih fun j hj => ?_) ?_ rfl rfl
        · by_cases hji : j = i
          · subst hji; rw [c9]; rfl
          · exact hno j (by omega)
        · show [Value.ref 4, .int (nI v), .int (nI i + Int32.ofInt 1)] = _
          rw [show nI i + Int32.ofInt 1 = nI (i + 1) from nI_1 i]
  exact key 0 (Nat.zero_le _) (fun j hj => absurd hj (Nat.not_lt_zero j))
theorem enO_ne {o : Option Nat} (h : ∀ v, o = some v → v < 2 ^ 31) : enO o = -1 ↔ o = none := by
  cases o with
  | none => simp [enO]
  | some v =>
    have := h v rfl
    constructor
    · intro e
      have : ¬ nI v ≤ -1 := nI_m1_lt this
      exact absurd (by show enO (some v) ≤ -1; rw [e]; exact Int32.le_refl _) this
    · intro e; cases e
theorem c_fillGreedily {A : Nat → Nat → Bool} (hg : hG n nr tn A) (hk : Gok n A) : aRet 3 0 0 mX1_fillGreedily [.ref 4] (cp (nI n, nr, tn) K S L1 U L2 L3 C P r) (fun x g => x = none ∧ ∃ K' : tK, kC K' n A (fgS n A n).1 (fgS n A n).2 ∧ g = cp (nI n, nr, tn) K' S L1 U L2 L3 C P r) := by
  have hn := hk.1
  refine aRet.of (by decide) (Nat.le_of_ble_eq_true rfl) (a_ok2 rfl) ?_
  refine g_aload_n (i := 0) (pc1 := 1) dX1_fillGreedily_0 rfl rfl rfl ?_
  refine g_V0 (M := mX1_wipe) (pc1 := 4) dX1_fillGreedily_1 rfl lkX1_70 tmX1_wipe rfl (c_wipe n nr tn K S L1 U L2 L3 C P r hk) (Nat.le_of_ble_eq_true rfl) rfl (Nat.le_of_ble_eq_true rfl) (Nat.le_of_ble_eq_true rfl) ?_
  rintro _ _ ⟨rfl, K0, hK0, rfl⟩
  refine g_iconst (v := 0) (pc1 := 5) dX1_fillGreedily_4 rfl (by decide) ?_
  refine g_istore_n (i := 1) (pc1 := 6) dX1_fillGreedily_5 rfl rfl (Nat.le_of_ble_eq_true rfl) ?_
  have key : ∀ K1 : tK, kC K1 n A (fgS n A 0).1 (fgS n A 0).2 → aGo (3, 0, 0, mX1_fillGreedily, none, fun x g => x = none ∧ ∃ K' : tK, kC K' n A (fgS n A n).1 (fgS n A n).2 ∧ g = cp (nI n, nr, tn) K' S L1 U L2 L3 C P r) 6 [.ref 4, .int (nI 0), .null] [] (cp (nI n, nr, tn) K1 S L1 U L2 L3 C P r) 0 0 := by
    refine down0 (P := fun i => ∀ K1 : tK, kC K1 n A (fgS n A i).1 (fgS n A i).2 → aGo _ 6 [.ref 4, .int (nI i), .null] [] (cp (nI n, nr, tn) K1 S L1 U L2 L3 C P r) 0 0) n ?_ ?_
    · intro K1 hK1
      refine g_iload_n (i := 1) (pc1 := 7) dX1_fillGreedily_6 rfl rfl rfl ?_
      refine g_aload_n (i := 0) (pc1 := 8) dX1_fillGreedily_7 rfl rfl rfl ?_
      refine g_get (pc1 := 11) dX1_fillGreedily_8 rfl flX1_28 rfl rfl ?_
      refine g_get (pc1 := 14) dX1_fillGreedily_11 rfl flX1_44 rfl rfl ?_
      refine g_icmp_ge (pc1 := 17) (tgt := 43) dX1_fillGreedily_14 rfl (by decide) (fun _ => ?_) (fun c => absurd (Int32.le_refl _) c)
      refine g_vret dX1_fillGreedily_43 rfl (Nat.le_of_ble_eq_true rfl) (Nat.le_of_ble_eq_true rfl) ?_
      exact ⟨rfl, K1, hK1, rfl⟩
    · intro i hi ih K1 hK1
      have hc := fgS_ok n A i
      refine g_iload_n (i := 1) (pc1 := 7) dX1_fillGreedily_6 rfl rfl rfl ?_
      refine g_aload_n (i := 0) (pc1 := 8) dX1_fillGreedily_7 rfl rfl rfl ?_
      refine g_get (pc1 := 11) dX1_fillGreedily_8 rfl flX1_28 rfl rfl ?_
      refine g_get (pc1 := 14) dX1_fillGreedily_11 rfl flX1_44 rfl rfl ?_
      refine g_icmp_ge (pc1 := 17) (tgt := 43) dX1_fillGreedily_14 rfl (by decide) (fun c => absurd c (fun c => absurd ((nI_leI (a := n) (b := i) (by omega) (by omega)).mp c) (by omega))) (fun _ => ?_)
      refine g_aload_n (i := 0) (pc1 := 18) dX1_fillGreedily_17 rfl rfl rfl ?_
      refine g_V0 (M := mX1_choice) (pc1 := 21) dX1_fillGreedily_18 rfl lkX1_73 tmX1_choice rfl (c_choice n nr tn K1 S L1 U L2 L3 C P r hg hk hK1 hc) (Nat.le_of_ble_eq_true rfl) rfl (Nat.le_of_ble_eq_true rfl) (Nat.le_of_ble_eq_true rfl) ?_
      rintro _ _ ⟨rfl, rfl⟩
      refine g_istore_n (i := 2) (pc1 := 22) dX1_fillGreedily_21 rfl rfl (Nat.le_of_ble_eq_true rfl) ?_
      refine g_iload_n (i := 2) (pc1 := 23) dX1_fillGreedily_22 rfl rfl rfl ?_
      refine g_iconst (v := (-1)) (pc1 := 24) dX1_fillGreedily_23 rfl (by decide) ?_
      have hnx : ∀ K2 : tK, kC K2 n A (fgS n A (i + 1)).1 (fgS n A (i + 1)).2 → aGo (3, 0, 0, mX1_fillGreedily, none, fun x g => x = none ∧ ∃ K' : tK, kC K' n A (fgS n A n).1 (fgS n A n).2 ∧ g = cp (nI n, nr, tn) K' S L1 U L2 L3 C P r) 37 [.ref 4, .int (nI i), .int (enO (chS n A (fgS n A i).1))] [] (cp (nI n, nr, tn) K2 S L1 U L2 L3 C P r) 0 0 := by
        intro K2 hK2
        refine g_iinc (pc1 := 40) dX1_fillGreedily_37 rfl rfl rfl ?_
        refine g_goto (tgt := 6) dX1_fillGreedily_40 (by decide) ?_
        refine aGo.forget 2 ?_
        refine aGo.eq (ih K2 hK2) ?_ rfl rfl
        show [Value.ref 4, .int (nI i + Int32.ofInt 1), .null] = _
        rw [show nI i + Int32.ofInt 1 = nI (i + 1) from nI_1 i]
      cases h1 : chS n A (fgS n A i).1 with
      | none =>
        refine g_icmp_eq (pc1 := 27) (tgt := 37) dX1_fillGreedily_24 rfl (by decide) (fun _ => ?_) (fun c => absurd rfl c)
        rw [h1] at hnx
        refine hnx K1 ?_
        have : fgS n A (i + 1) = fgS n A i := by
          show (match chS n A (fgS n A i).1 with
            | none => fgS n A i
            | some v => _) = _
          rw [h1]
        rw [this]; exact hK1
      | some v =>
        obtain ⟨hv, hv0⟩ := chS_some h1
        have hne : ¬ enO (some v) = -1 := fun e => by
          have := (enO_ne (o := some v) (fun w hw => by cases hw; omega)).mp e
          cases this
        refine g_icmp_eq (pc1 := 27) (tgt := 37) dX1_fillGreedily_24 rfl (by decide) (fun c => absurd c hne) (fun _ => ?_)
        show aGo _ 27 [.ref 4, .int (nI i), .int (nI v)] _ _ _ _
        refine g_aload_n (i := 0) (pc1 := 28) dX1_fillGreedily_27 rfl rfl rfl ?_
        refine g_iload_n (i := 2) (pc1 := 29) dX1_fillGreedily_28 rfl rfl rfl ?_
        refine g_aload_n (i := 0) (pc1 := 30) dX1_fillGreedily_29 rfl rfl rfl ?_
        refine g_iload_n (i := 2) (pc1 := 31) dX1_fillGreedily_30 rfl rfl rfl ?_
        refine g_V1 (M := mX1_leastUnseen) (pc1 := 34) dX1_fillGreedily_31 rfl lkX1_76 tmX1_leastUnseen rfl (c_leastUnseen n nr tn K1 S L1 U L2 L3 C P r hK1 (v := v) (by omega)) (Nat.le_of_ble_eq_true rfl) rfl (Nat.le_of_ble_eq_true rfl) (Nat.le_of_ble_eq_true rfl) ?_
        rintro _ _ ⟨rfl, rfl⟩
        show aGo _ 34 _ [.int _, .int _, .ref 4] _ _ _
        refine g_V2 (M := mX1_give) (pc1 := 37) dX1_fillGreedily_34 rfl lkX1_79 tmX1_give rfl (c_give n nr tn K1 S L1 U L2 L3 C P r hg hk hK1 hc hv hv0 (lu_le hc v) (lu_lt _ _ _ _)) (Nat.le_of_ble_eq_true rfl) rfl (Nat.le_of_ble_eq_true rfl) (Nat.le_of_ble_eq_true rfl) ?_
        rintro _ _ ⟨rfl, K2, hK2, rfl⟩
        rw [h1] at hnx
        refine hnx K2 ?_
        have : fgS n A (i + 1) = (cset (fgS n A i).1 v (lu n A (fgS n A i).1 v), up1 (fgS n A i).2 (lu n A (fgS n A i).1 v)) := by
          show (match chS n A (fgS n A i).1 with
            | none => fgS n A i
            | some v => _) = _
          rw [h1]
        rw [this]; exact hK2
  exact key K0 hK0
end
