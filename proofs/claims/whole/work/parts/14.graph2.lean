/-! ===== THE CLIQUE, drawing, divisors ===== -/
def enW (o : Option Nat) : Int32 := match o with
  | none => 0
  | some b => nI b
def enG (f : Nat → Nat) (o : Option Nat) : Int32 := match o with
  | none => -1
  | some b => nI (f b)
def clq (A : Nat → Nat → Bool) (f : Nat → Nat) (n : Nat) (O : Nat → Bool) : Nat → (Nat → Bool) × (Nat → Bool)
  | 0 => (fun _ => false, O)
  | i + 1 => match amx (clq A f n O i).2 f n with
    | none => clq A f n O i
    | some v => (fun j => (clq A f n O i).1 j || decide (j = v), fun j => (clq A f n O i).2 j && A v j)
theorem clq_stop {A : Nat → Nat → Bool} {f : Nat → Nat} {n : Nat} {O : Nat → Bool} {i : Nat} (h : amx (clq A f n O i).2 f n = none) : ∀ k, clq A f n O (i + k) = clq A f n O i
  | 0 => rfl
  | k + 1 => by
    have ih := clq_stop h k
    show (match amx (clq A f n O (i + k)).2 f n with
      | none => clq A f n O (i + k)
      | some v => _) = _
    rw [ih, h]
theorem clq_sub {A : Nat → Nat → Bool} {f : Nat → Nat} {n : Nat} {O : Nat → Bool} : ∀ (i j : Nat), (clq A f n O i).2 j = true → O j = true
  | 0, _, h => h
  | i + 1, j, h => by
    unfold clq at h
    split at h
    · exact clq_sub i j h
    · simp only [Bool.and_eq_true] at h
      exact clq_sub i j h.1
theorem nI_m1_lt {a : Nat} (h : a < 2 ^ 31) : ¬ nI a ≤ -1 := by
  intro hc
  have h1 := Int32.le_iff_toInt_le.mp hc
  rw [nI_toInt h] at h1
  have h2 : (-1 : Int32).toInt = -1 := by decide
  omega
section
variable (G : tG) (K : tK) (S : tS) (L1 : tL) (U : tU) (L2 L3 : tL) (C : Int32 × Int32) (P : fI) (r : List aC)
theorem c_widest {n : Nat} {A : Nat → Nat → Bool} (hC : gC G n A) (hk : Gok n A) (p : Nat → Bool) : aRet 2 0 0 mX2_widest [.ref 1, .int (bS p)] (cp G K S L1 U L2 L3 C P r) (fun w g => w = some (.int (enW (amx p (dg A n) n))) ∧ g = cp G K S L1 U L2 L3 C P r) := by
  have hn := hk.1
  refine aRet.of (by decide) (Nat.le_of_ble_eq_true rfl) (a_ok2 rfl) ?_
  refine g_iconst (v := 0) (pc1 := 1) dX2_widest_0 rfl (by decide) ?_
  refine g_istore_n (i := 2) (pc1 := 2) dX2_widest_1 rfl rfl (Nat.le_of_ble_eq_true rfl) ?_
  refine g_iconst (v := (-1)) (pc1 := 3) dX2_widest_2 rfl (by decide) ?_
  refine g_istore_n (i := 3) (pc1 := 4) dX2_widest_3 rfl rfl (Nat.le_of_ble_eq_true rfl) ?_
  refine g_iconst (v := 0) (pc1 := 5) dX2_widest_4 rfl (by decide) ?_
  refine g_istore (pc1 := 7) dX2_widest_5 rfl (Nat.le_of_ble_eq_true rfl) ?_
  refine down0 (P := fun i => aGo _ 7 [.ref 1, .int (bS p), .int (enW (amx p (dg A n) i)), .int (enG (dg A n) (amx p (dg A n) i)), .int (nI i)] [] (cp G K S L1 U L2 L3 C P r) 0 0) n ?_ ?_
  · refine g_iload (pc1 := 9) dX2_widest_7 rfl rfl ?_
    refine g_aload_n (i := 0) (pc1 := 10) dX2_widest_9 rfl rfl rfl ?_
    refine g_get (pc1 := 13) dX2_widest_10 rfl flX2_9 rfl rfl ?_
    rw [hC.1]
    refine g_icmp_ge (pc1 := 16) (tgt := 51) dX2_widest_13 rfl (by decide) (fun _ => ?_) (fun c => absurd (Int32.le_refl _) c)
    refine g_iload_n (i := 2) (pc1 := 52) dX2_widest_51 rfl rfl rfl ?_
    refine g_iret dX2_widest_52 rfl rfl (Nat.le_of_ble_eq_true rfl) (Nat.le_of_ble_eq_true rfl) ?_
    exact ⟨rfl, rfl⟩
  · intro i hi ih
    refine g_iload (pc1 := 9) dX2_widest_7 rfl rfl ?_
    refine g_aload_n (i := 0) (pc1 := 10) dX2_widest_9 rfl rfl rfl ?_
    refine g_get (pc1 := 13) dX2_widest_10 rfl flX2_9 rfl rfl ?_
    rw [hC.1]
    refine g_icmp_ge (pc1 := 16) (tgt := 51) dX2_widest_13 rfl (by decide) (fun c => absurd c (fun c => absurd ((nI_leI (a := n) (b := i) (by omega) (by omega)).mp c) (by omega))) (fun _ => ?_)
    refine g_iload_n (i := 1) (pc1 := 17) dX2_widest_16 rfl rfl rfl ?_
    refine g_iload (pc1 := 19) dX2_widest_17 rfl rfl ?_
    refine g_SN2 (M := mX7_contains) (pc1 := 22) dX2_widest_19 rfl ⟨rfl, lnX2_32⟩ tmX7_contains (c_contains (bS p) (j := i) (by omega)) (Nat.le_of_ble_eq_true rfl) rfl (Nat.le_of_ble_eq_true rfl) (Nat.le_of_ble_eq_true rfl) ?_
    rintro _ _ ⟨rfl, rfl⟩
    have hb : bt (bS p) i = p i := by rw [bt_bS]; simp [show i < 32 by omega]
    rw [hb]
    refine g_if_eq (pc1 := 25) (tgt := 45) dX2_widest_22 rfl (by decide) (fun c => ?_) (fun c => ?_)
    · rw [bI_eq0] at c
      refine g_iinc (pc1 := 48) dX2_widest_45 rfl rfl rfl ?_
      refine g_goto (tgt := 7) dX2_widest_48 (by decide) ?_
      refine aGo.eq ih ?_ rfl rfl
      show [Value.ref 1, .int (bS p), .int (enW (amx p (dg A n) i)), .int (enG (dg A n) (amx p (dg A n) i)), .int (nI i + Int32.ofInt 1)] = _
      rw [show nI i + Int32.ofInt 1 = nI (i + 1) from nI_1 i]
      have e : amx p (dg A n) (i + 1) = amx p (dg A n) i := by
        show (if p i = true then _ else _) = _
        rw [c]; rfl
      rw [e]
    · rw [bI_ne0] at c
      refine g_aload_n (i := 0) (pc1 := 26) dX2_widest_25 rfl rfl rfl ?_
      refine g_iload (pc1 := 28) dX2_widest_26 rfl rfl ?_
      refine g_V1 (M := mX2_degreeOf) (pc1 := 31) dX2_widest_28 rfl lkX2_41 tmX2_degreeOf rfl (c_degreeOf G K S L1 U L2 L3 C P r hC hk (v := i) (by omega)) (Nat.le_of_ble_eq_true rfl) rfl (Nat.le_of_ble_eq_true rfl) (Nat.le_of_ble_eq_true rfl) ?_
      rintro _ _ ⟨rfl, rfl⟩
      have hd := dg_le A n i
      have e : amx p (dg A n) (i + 1) = (match amx p (dg A n) i with
          | none => some i
          | some b => if dg A n b < dg A n i then some i else some b) := by
        show (if p i = true then _ else _) = _
        rw [if_pos c]
        rfl
      refine g_iload_n (i := 3) (pc1 := 32) dX2_widest_31 rfl rfl rfl ?_
      refine g_icmp_le (pc1 := 35) (tgt := 45) dX2_widest_32 rfl (by decide) (fun c2 => ?_) (fun c2 => ?_)
      · have e2 : amx p (dg A n) (i + 1) = amx p (dg A n) i := by
          rw [e]
          cases h1 : amx p (dg A n) i with
          | none => rw [h1] at c2; exact absurd c2 (nI_m1_lt (by omega))
          | some b =>
            rw [h1] at c2
            have hb2 := dg_le A n b
            have h3 := (nI_leI (a := dg A n i) (b := dg A n b) (by omega) (by omega)).mp c2
            show (if dg A n b < dg A n i then _ else _) = _
            rw [if_neg (by omega)]
        refine g_iinc (pc1 := 48) dX2_widest_45 rfl rfl rfl ?_
        refine g_goto (tgt := 7) dX2_widest_48 (by decide) ?_
        refine aGo.eq ih ?_ rfl rfl
        show [Value.ref 1, .int (bS p), .int (enW (amx p (dg A n) i)), .int (enG (dg A n) (amx p (dg A n) i)), .int (nI i + Int32.ofInt 1)] = _
        rw [show nI i + Int32.ofInt 1 = nI (i + 1) from nI_1 i, e2]
      · have e2 : amx p (dg A n) (i + 1) = some i := by
          rw [e]
          cases h1 : amx p (dg A n) i with
          | none => rfl
          | some b =>
            rw [h1] at c2
            have hb2 := dg_le A n b
            have h3 : ¬ dg A n i ≤ dg A n b := fun q => c2 ((nI_leI (by omega) (by omega)).mpr q)
            show (if dg A n b < dg A n i then _ else _) = _
            rw [if_pos (by omega)]
        refine g_iload (pc1 := 37) dX2_widest_35 rfl rfl ?_
        refine g_istore_n (i := 2) (pc1 := 38) dX2_widest_37 rfl rfl (Nat.le_of_ble_eq_true rfl) ?_
        refine g_aload_n (i := 0) (pc1 := 39) dX2_widest_38 rfl rfl rfl ?_
        refine g_iload (pc1 := 41) dX2_widest_39 rfl rfl ?_
        refine g_V1 (M := mX2_degreeOf) (pc1 := 44) dX2_widest_41 rfl lkX2_41 tmX2_degreeOf rfl (c_degreeOf G K S L1 U L2 L3 C P r hC hk (v := i) (by omega)) (Nat.le_of_ble_eq_true rfl) rfl (Nat.le_of_ble_eq_true rfl) (Nat.le_of_ble_eq_true rfl) ?_
        rintro _ _ ⟨rfl, rfl⟩
        refine g_istore_n (i := 3) (pc1 := 45) dX2_widest_44 rfl rfl (Nat.le_of_ble_eq_true rfl) ?_
        refine g_iinc (pc1 := 48) dX2_widest_45 rfl rfl rfl ?_
        refine g_goto (tgt := 7) dX2_widest_48 (by decide) ?_
        refine aGo.eq ih ?_ rfl rfl
        show [Value.ref 1, .int (bS p), .int (nI i), .int (nI (dg A n i)), .int (nI i + Int32.ofInt 1)] = _
        rw [show nI i + Int32.ofInt 1 = nI (i + 1) from nI_1 i, e2]
        rfl
def clqR (A : Nat → Nat → Bool) (n : Nat) : Nat → Bool := (clq A (dg A n) n (fun i => decide (i < n)) n).1
theorem c_greedyClique {n : Nat} {A : Nat → Nat → Bool} (hC : gC G n A) (hk : Gok n A) : aRet 3 0 0 mX2_greedyClique [.ref 1] (cp G K S L1 U L2 L3 C P r) (fun w g => w = some (.int (bS (clqR A n))) ∧ g = cp G K S L1 U L2 L3 C P r) := by
  have hn := hk.1
  refine aRet.of (by decide) (Nat.le_of_ble_eq_true rfl) (a_ok2 rfl) ?_
  refine g_iconst (v := 0) (pc1 := 1) dX2_greedyClique_0 rfl (by decide) ?_
  refine g_istore_n (i := 1) (pc1 := 2) dX2_greedyClique_1 rfl rfl (Nat.le_of_ble_eq_true rfl) ?_
  refine g_aload_n (i := 0) (pc1 := 3) dX2_greedyClique_2 rfl rfl rfl ?_
  refine g_V0 (M := mX2_all) (pc1 := 6) dX2_greedyClique_3 rfl lkX2_64 tmX2_all rfl (c_all G K S L1 U L2 L3 C P r hn hC.1) (Nat.le_of_ble_eq_true rfl) rfl (Nat.le_of_ble_eq_true rfl) (Nat.le_of_ble_eq_true rfl) ?_
  rintro _ _ ⟨rfl, rfl⟩
  refine g_istore_n (i := 2) (pc1 := 7) dX2_greedyClique_6 rfl rfl (Nat.le_of_ble_eq_true rfl) ?_
  refine g_iconst (v := 0) (pc1 := 8) dX2_greedyClique_7 rfl (by decide) ?_
  refine g_istore_n (i := 3) (pc1 := 9) dX2_greedyClique_8 rfl rfl (Nat.le_of_ble_eq_true rfl) ?_
  rw [bS_0]
  refine down0 (P := fun i => aGo _ 9 [.ref 1, .int (bS (clq A (dg A n) n (fun i => decide (i < n)) i).1), .int (bS (clq A (dg A n) n (fun i => decide (i < n)) i).2), .int (nI i), .null] [] (cp G K S L1 U L2 L3 C P r) 0 0) n ?_ ?_
  · refine g_iload_n (i := 3) (pc1 := 10) dX2_greedyClique_9 rfl rfl rfl ?_
    refine g_aload_n (i := 0) (pc1 := 11) dX2_greedyClique_10 rfl rfl rfl ?_
    refine g_get (pc1 := 14) dX2_greedyClique_11 rfl flX2_9 rfl rfl ?_
    rw [hC.1]
    refine g_icmp_ge (pc1 := 17) (tgt := 51) dX2_greedyClique_14 rfl (by decide) (fun _ => ?_) (fun c => absurd (Int32.le_refl _) c)
    refine g_iload_n (i := 1) (pc1 := 52) dX2_greedyClique_51 rfl rfl rfl ?_
    refine g_iret dX2_greedyClique_52 rfl rfl (Nat.le_of_ble_eq_true rfl) (Nat.le_of_ble_eq_true rfl) ?_
    exact ⟨rfl, rfl⟩
  · intro i hi ih
    refine g_iload_n (i := 3) (pc1 := 10) dX2_greedyClique_9 rfl rfl rfl ?_
    refine g_aload_n (i := 0) (pc1 := 11) dX2_greedyClique_10 rfl rfl rfl ?_
    refine g_get (pc1 := 14) dX2_greedyClique_11 rfl flX2_9 rfl rfl ?_
    rw [hC.1]
    refine g_icmp_ge (pc1 := 17) (tgt := 51) dX2_greedyClique_14 rfl (by decide) (fun c => absurd c (fun c => absurd ((nI_leI (a := n) (b := i) (by omega) (by omega)).mp c) (by omega))) (fun _ => ?_)
    refine g_iload_n (i := 2) (pc1 := 18) dX2_greedyClique_17 rfl rfl rfl ?_
    generalize hT : clq A (dg A n) n (fun i => decide (i < n)) i = TO at *
    have hsub : ∀ j, TO.2 j = true → j < n := fun j hj => by
      have := clq_sub (A := A) (f := dg A n) (n := n) (O := fun i => decide (i < n)) i j (by rw [hT]; exact hj)
      simpa using this
    refine g_if_eq (pc1 := 21) (tgt := 51) dX2_greedyClique_18 rfl (by decide) (fun c => ?_) (fun c => ?_)
    · refine g_iload_n (i := 1) (pc1 := 52) dX2_greedyClique_51 rfl rfl rfl ?_
      refine g_iret dX2_greedyClique_52 rfl rfl (Nat.le_of_ble_eq_true rfl) (Nat.le_of_ble_eq_true rfl) ?_
      refine ⟨?_, rfl⟩
      have h0 := bS_eq0.mp c
      have h1 : amx (clq A (dg A n) n (fun i => decide (i < n)) i).2 (dg A n) n = none := amx_none.mpr (fun j hj => by rw [hT]; exact h0 j (by omega))
      have h2 := clq_stop h1 (n - i)
      rw [show i + (n - i) = n by omega] at h2
      show _ = some (Value.int (bS (clq A (dg A n) n (fun i => decide (i < n)) n).1))
      rw [h2, hT]
    · refine g_aload_n (i := 0) (pc1 := 22) dX2_greedyClique_21 rfl rfl rfl ?_
      refine g_iload_n (i := 2) (pc1 := 23) dX2_greedyClique_22 rfl rfl rfl ?_
      refine g_V1 (M := mX2_widest) (pc1 := 26) dX2_greedyClique_23 rfl lkX2_68 tmX2_widest rfl (c_widest G K S L1 U L2 L3 C P r hC hk TO.2) (Nat.le_of_ble_eq_true rfl) rfl (Nat.le_of_ble_eq_true rfl) (Nat.le_of_ble_eq_true rfl) ?_
      rintro _ _ ⟨rfl, rfl⟩
      cases h1 : amx TO.2 (dg A n) n with
      | none => exact absurd (bS_eq0.mpr (fun j hj => by
          cases h2 : TO.2 j with
          | false => rfl
          | true => rw [amx_none.mp h1 j (hsub j h2)] at h2; cases h2)) c
      | some v =>
        have hv := (amx_some h1).1
        show aGo _ 26 _ [.int (nI v)] _ _ _
        refine g_istore (pc1 := 28) dX2_greedyClique_26 rfl (Nat.le_of_ble_eq_true rfl) ?_
        refine g_iload_n (i := 1) (pc1 := 29) dX2_greedyClique_28 rfl rfl rfl ?_
        refine g_iconst (v := 1) (pc1 := 30) dX2_greedyClique_29 rfl (by decide) ?_
        refine g_iload (pc1 := 32) dX2_greedyClique_30 rfl rfl ?_
        refine g_ishl (pc1 := 33) dX2_greedyClique_32 rfl ?_
        refine g_ior (pc1 := 34) dX2_greedyClique_33 rfl ?_
        refine g_istore_n (i := 1) (pc1 := 35) dX2_greedyClique_34 rfl rfl (Nat.le_of_ble_eq_true rfl) ?_
        refine g_iload_n (i := 2) (pc1 := 36) dX2_greedyClique_35 rfl rfl rfl ?_
        refine g_aload_n (i := 0) (pc1 := 37) dX2_greedyClique_36 rfl rfl rfl ?_
        refine g_get (pc1 := 40) dX2_greedyClique_37 rfl flX2_15 rfl rfl ?_
        refine g_iload (pc1 := 42) dX2_greedyClique_40 rfl rfl ?_
        refine g_ialdJ (pc1 := 43) dX2_greedyClique_42 rfl rfl rfl (by omega) (by decide) ?_
        refine g_iand (pc1 := 44) dX2_greedyClique_43 rfl ?_
        refine g_istore_n (i := 2) (pc1 := 45) dX2_greedyClique_44 rfl rfl (Nat.le_of_ble_eq_true rfl) ?_
        refine g_iinc (pc1 := 48) dX2_greedyClique_45 rfl rfl rfl ?_
        refine g_goto (tgt := 9) dX2_greedyClique_48 (by decide) ?_
        refine aGo.forget 4 ?_
        refine aGo.eq ih ?_ rfl rfl
        show [Value.ref 1, .int (bS TO.1 ||| (1 : Int32) <<< (nI v &&& 31)), .int (bS TO.2 &&& G.2.1 v), .int (nI i + Int32.ofInt 1), .null] = _
        have e : clq A (dg A n) n (fun i => decide (i < n)) (i + 1) = (fun j => TO.1 j || decide (j = v), fun j => TO.2 j && A v j) := by
          show (match amx (clq A (dg A n) n (fun i => decide (i < n)) i).2 (dg A n) n with
            | none => clq A (dg A n) n (fun i => decide (i < n)) i
            | some v => _) = _
          rw [hT, h1]
        rw [show nI i + Int32.ofInt 1 = nI (i + 1) from nI_1 i, e, bS_bit (by omega), bS_or, hC.row (by omega), bS_and]
def shd (n f d : Nat) : Bool := decide (2 ≤ d) && (decide (f % d = 0) && decide (n % d = 0))
theorem c_sharesDivisor {n f : Nat} (hn : n ≤ 30) (hf1 : 1 ≤ f) (hf : f ≤ 30) (hG : G.1 = nI n) : aRet 0 0 0 mX2_sharesDivisor [.ref 1, .int (nI f)] (cp G K S L1 U L2 L3 C P r) (fun w g => w = some (.int (bI (ex (shd n f) (f + 1)))) ∧ g = cp G K S L1 U L2 L3 C P r) := by
  refine aRet.of (by decide) (Nat.le_of_ble_eq_true rfl) (a_ok2 rfl) ?_
  refine g_iconst (v := 2) (pc1 := 1) dX2_sharesDivisor_0 rfl (by decide) ?_
  refine g_istore_n (i := 2) (pc1 := 2) dX2_sharesDivisor_1 rfl rfl (Nat.le_of_ble_eq_true rfl) ?_
  have key : ∀ d, d ≤ f + 1 → 2 ≤ d → (∀ j, j < d → shd n f j = false) → aGo (0, 0, 0, mX2_sharesDivisor, none, fun w g => w = some (.int (bI (ex (shd n f) (f + 1)))) ∧ g = cp G K S L1 U L2 L3 C P r) 2 [.ref 1, .int (nI f), .int (nI d)] [] (cp G K S L1 U L2 L3 C P r) 0 0 := by
    refine down (P := fun d => 2 ≤ d → (∀ j, j < d → shd n f j = false) → aGo _ 2 [.ref 1, .int (nI f), .int (nI d)] [] (cp G K S L1 U L2 L3 C P r) 0 0) ?_ ?_
    · intro _ hno
      refine g_iload_n (i := 2) (pc1 := 3) dX2_sharesDivisor_2 rfl rfl rfl ?_
      refine g_iload_n (i := 1) (pc1 := 4) dX2_sharesDivisor_3 rfl rfl rfl ?_
      refine g_icmp_gt (pc1 := 7) (tgt := 30) dX2_sharesDivisor_4 rfl (by decide) (fun _ => ?_) (fun c => absurd ((nI_ltI (a := f) (b := f + 1) (by omega) (by omega)).mpr (by omega)) c)
      refine g_iconst (v := 0) (pc1 := 31) dX2_sharesDivisor_30 rfl (by decide) ?_
      refine g_iret dX2_sharesDivisor_31 rfl rfl (Nat.le_of_ble_eq_true rfl) (Nat.le_of_ble_eq_true rfl) ?_
      exact ⟨by rw [ex_false.mpr hno]; rfl, rfl⟩
    · intro d hd ih h2 hno
      refine g_iload_n (i := 2) (pc1 := 3) dX2_sharesDivisor_2 rfl rfl rfl ?_
      refine g_iload_n (i := 1) (pc1 := 4) dX2_sharesDivisor_3 rfl rfl rfl ?_
      refine g_icmp_gt (pc1 := 7) (tgt := 30) dX2_sharesDivisor_4 rfl (by decide) (fun c => absurd c (fun c => absurd ((nI_ltI (a := f) (b := d) (by omega) (by omega)).mp c) (by omega))) (fun _ => ?_)
      have hd0 : ¬ nI d = 0 := nI_ne0 (by omega) (by omega)
      refine g_iload_n (i := 1) (pc1 := 8) dX2_sharesDivisor_7 rfl rfl rfl ?_
      refine g_iload_n (i := 2) (pc1 := 9) dX2_sharesDivisor_8 rfl rfl rfl ?_
      refine g_irem (pc1 := 10) dX2_sharesDivisor_9 rfl hd0 ?_
      rw [pk_rem (by omega) (by omega) (by omega)]
      have hstep : shd n f d = false → aGo (0, 0, 0, mX2_sharesDivisor, none, fun w g => w = some (.int (bI (ex (shd n f) (f + 1)))) ∧ g = cp G K S L1 U L2 L3 C P r) 24 [.ref 1, .int (nI f), .int (nI d)] [] (cp G K S L1 U L2 L3 C P r) 0 0 := by
        intro hs
        refine g_iinc (pc1 := 27) dX2_sharesDivisor_24 rfl rfl rfl ?_
        refine g_goto (tgt := 2) dX2_sharesDivisor_27 (by decide) ?_
        refine aGo.eq (ih (by omega) (fun j hj => ?_)) ?_ rfl rfl
        · by_cases hjd : j = d
          · subst hjd; exact hs
          · exact hno j (by omega)
        · show [Value.ref 1, .int (nI f), .int (nI d + Int32.ofInt 1)] = _
          rw [show nI d + Int32.ofInt 1 = nI (d + 1) from nI_1 d]
      refine g_if_ne (pc1 := 13) (tgt := 24) dX2_sharesDivisor_10 rfl (by decide) (fun c => ?_) (fun c => ?_)
      · refine hstep ?_
        have h3 : ¬ f % d = 0 := fun q => c (by rw [q]; rfl)
        simp [shd, h3]
      · have h3 : f % d = 0 := (nI_eq (a := f % d) (b := 0) (by have := Nat.mod_le f d; omega) (by omega)).mp c
        refine g_aload_n (i := 0) (pc1 := 14) dX2_sharesDivisor_13 rfl rfl rfl ?_
        refine g_get (pc1 := 17) dX2_sharesDivisor_14 rfl flX2_9 rfl rfl ?_
        rw [hG]
        refine g_iload_n (i := 2) (pc1 := 18) dX2_sharesDivisor_17 rfl rfl rfl ?_
        refine g_irem (pc1 := 19) dX2_sharesDivisor_18 rfl hd0 ?_
        rw [pk_rem (by omega) (by omega) (by omega)]
        refine g_if_ne (pc1 := 22) (tgt := 24) dX2_sharesDivisor_19 rfl (by decide) (fun c4 => ?_) (fun c4 => ?_)
        · refine hstep ?_
          have h4 : ¬ n % d = 0 := fun q => c4 (by rw [q]; rfl)
          simp [shd, h4]
        · have h4 : n % d = 0 := (nI_eq (a := n % d) (b := 0) (by have := Nat.mod_le n d; omega) (by omega)).mp c4
          refine g_iconst (v := 1) (pc1 := 23) dX2_sharesDivisor_22 rfl (by decide) ?_
          refine g_iret dX2_sharesDivisor_23 rfl rfl (Nat.le_of_ble_eq_true rfl) (Nat.le_of_ble_eq_true rfl) ?_
          exact ⟨by rw [ex_iff.mpr ⟨d, by omega, by simp [shd, h3, h4, h2]⟩]; rfl, rfl⟩
  exact key 2 (by omega) (Nat.le_refl _) (fun j hj => by simp [shd]; omega)
end
