/-! ===== SEARCH ===== -/
def frS (n : Nat) (A : Nat → Nat → Bool) (col : tCol) (k : Nat) (T : Nat → Bool) : Nat → Bool := fun c => decide (c < k) && ex (fun v => T v && !hC n A col v c) n
abbrev tcl (n : Nat) (A : Nat → Nat → Bool) (col : tCol) (i : Nat) : (Nat → Bool) × (Nat → Bool) := clq A (foF n A col) n (brP n col) i
def tg (n : Nat) (A : Nat → Nat → Bool) (col : tCol) (k : Nat) : Nat → Nat → Option (Nat → Bool)
  | 0, _ => none
  | m + 1, i => match amx (tcl n A col i).2 (foF n A col) n with
    | none => none
    | some _ => if cnt (frS n A col k (tcl n A col (i + 1)).1) 30 < i + 1 then some (tcl n A col (i + 1)).1 else tg n A col k m (i + 1)
def tgt (n : Nat) (A : Nat → Nat → Bool) (col : tCol) (k : Nat) : Option (Nat → Bool) := tg n A col k n 0
def enT (o : Option (Nat → Bool)) : Int32 := match o with
  | none => 0
  | some T => bS T
/-- how a search stands: 0 back, 1 found, 2 full; the log; the colouring with how many colours -/
abbrev tR : Type := Nat × tLog × tCol × Nat
def brl (rec : tCol → Nat → tLog → tR) (n : Nat) (A : Nat → Nat → Bool) (k : Nat) (col : tCol) (u v : Nat) : Nat → Nat → tLog → tR
  | 0, _, lg => (0, lg, col, u)
  | m + 1, c, lg => if c < k ∧ c ≤ u then
      (if lg.length < 3000 then
        (if hC n A col v c = true then brl rec n A k col u v m (c + 1) (lg ++ [(2, nI (nbW n A col v c))])
        else if (rec (cset col v c) (up1 u c) (lg ++ [(3, nI c)])).1 = 0 then brl rec n A k col u v m (c + 1) (rec (cset col v c) (up1 u c) (lg ++ [(3, nI c)])).2.1
        else rec (cset col v c) (up1 u c) (lg ++ [(3, nI c)]))
      else (2, lg, col, u)) else (0, lg, col, u)
def vis (n : Nat) (A : Nat → Nat → Bool) (k : Nat) : Nat → tCol → Nat → tLog → tR
  | 0, col, u, lg => (2, lg, col, u)
  | d + 1, col, u, lg => match chS n A col with
    | none => (1, lg, col, u)
    | some v => match tgt n A col k with
      | some T => if lg.length < 3000 then (0, lg ++ [(4, bS T)], col, u) else (2, lg, col, u)
      | none => if lg.length < 3000 then brl (vis n A k d) n A k col u v 31 0 (lg ++ [(1, nI v)]) else (2, lg, col, u)
/-- how many lines have an op -/
def opc (o : Int32) (lg : tLog) : Nat := (lg.filter (fun e => e.1 == o)).length
theorem opc_app (o : Int32) (lg : tLog) (a x : Int32) : opc o (lg ++ [(a, x)]) = opc o lg + (if a = o then 1 else 0) := by
  unfold opc
  rw [List.filter_append, List.length_append]
  by_cases h : a = o
  · simp [h]
  · simp [h]
theorem opc_le (o : Int32) (lg : tLog) : opc o lg ≤ lg.length := List.length_filter_le _ _
theorem frS_add {n : Nat} {A : Nat → Nat → Bool} {col : tCol} {k : Nat} {T : Nat → Bool} {v : Nat} (hv : v < n) (c : Nat) : frS n A col k (fun j => T j || decide (j = v)) c = (frS n A col k T c || (decide (c < k) && !hC n A col v c)) := by
  unfold frS
  by_cases hc : c < k
  · simp only [hc, decide_true, Bool.true_and]
    cases h1 : ex (fun v => T v && !hC n A col v c) n with
    | true =>
      obtain ⟨w, h2, h3⟩ := ex_iff.mp h1
      simp only [Bool.and_eq_true] at h3
      rw [ex_iff.mpr ⟨w, h2, by simp [h3.1]; simpa using h3.2⟩]; simp
    | false =>
      have h0 := ex_false.mp h1
      rw [Bool.false_or]
      cases h2 : hC n A col v c with
      | false => exact ex_iff.mpr ⟨v, hv, by simp [h2]⟩
      | true =>
        refine ex_false.mpr fun w hw => ?_
        by_cases hwv : w = v
        · subst hwv; simp [h2]
        · have := h0 w hw
          simpa [hwv] using this
  · simp [hc]
theorem cnt_frS {n : Nat} {A : Nat → Nat → Bool} {col : tCol} {k : Nat} (hk : k ≤ 30) (T : Nat → Bool) : cnt (frS n A col k T) 32 = cnt (frS n A col k T) 30 := cnt_more (by omega) (fun i h1 _ => by unfold frS; rw [decide_eq_false (by omega)]; rfl)
theorem tcl_succ {n : Nat} {A : Nat → Nat → Bool} {col : tCol} {i v : Nat} (h : amx (tcl n A col i).2 (foF n A col) n = some v) : tcl n A col (i + 1) = (fun j => (tcl n A col i).1 j || decide (j = v), fun j => (tcl n A col i).2 j && A v j) := by
  show (match amx (clq A (foF n A col) n (brP n col) i).2 (foF n A col) n with
    | none => clq A (foF n A col) n (brP n col) i
    | some v => _) = _
  rw [h]
section
variable (n : Nat) (nr tn : fI) (K : tK) (S : tS) (L1 : tL) (U : tU) (L2 L3 : tL) (C : Int32 × Int32) (P : fI) (r : List aC)
theorem c_swrite (G : tG) {lg : tLog} (hL : lC L1 lg) (op x : Int32) : aRet 1 0 0 mX4_write [.ref 8, .int op, .int x] (cp G K S L1 U L2 L3 C P r) (fun v g => (lg.length < 3000 ∧ v = some (.int 0) ∧ ∃ L' : tL, lC L' (lg ++ [(op, x)]) ∧ g = cp G K S L' U L2 L3 C P r) ∨ (¬ lg.length < 3000 ∧ v = some (.int 2) ∧ g = cp G K S L1 U L2 L3 C P r)) := by
  refine aRet.of (by decide) (Nat.le_of_ble_eq_true rfl) (a_ok2 rfl) ?_
  refine g_aload_n (i := 0) (pc1 := 1) dX4_write_0 rfl rfl rfl ?_
  refine g_get (pc1 := 4) dX4_write_1 rfl flX4_18 rfl rfl ?_
  refine g_iload_n (i := 1) (pc1 := 5) dX4_write_4 rfl rfl rfl ?_
  refine g_iload_n (i := 2) (pc1 := 6) dX4_write_5 rfl rfl rfl ?_
  refine g_V2 (M := mX3_write) (pc1 := 9) dX4_write_6 rfl lkX4_104 tmX3_write rfl (c_write9 G K S L1 U L2 L3 C P r hL op x) (Nat.le_of_ble_eq_true rfl) rfl (Nat.le_of_ble_eq_true rfl) (Nat.le_of_ble_eq_true rfl) ?_
  rintro _ _ (⟨h1, rfl, L', h2, rfl⟩ | ⟨h1, rfl, rfl⟩)
  · refine g_if_eq (pc1 := 12) (tgt := 16) dX4_write_9 rfl (by decide) (fun c => absurd c (by decide)) (fun _ => ?_)
    refine g_iconst (v := 0) (pc1 := 13) dX4_write_12 rfl (by decide) ?_
    refine g_goto (tgt := 17) dX4_write_13 (by decide) ?_
    refine g_iret dX4_write_17 rfl rfl (Nat.le_of_ble_eq_true rfl) (Nat.le_of_ble_eq_true rfl) ?_
    exact Or.inl ⟨h1, rfl, L', h2, rfl⟩
  · refine g_if_eq (pc1 := 12) (tgt := 16) dX4_write_9 rfl (by decide) (fun _ => ?_) (fun c => absurd rfl c)
    refine g_iconst (v := 2) (pc1 := 17) dX4_write_16 rfl (by decide) ?_
    refine g_iret dX4_write_17 rfl rfl (Nat.le_of_ble_eq_true rfl) (Nat.le_of_ble_eq_true rfl) ?_
    exact Or.inr ⟨h1, rfl, rfl⟩
set_option maxHeartbeats 1000000 in
theorem c_tightClique {A : Nat → Nat → Bool} (hg : hG n nr tn A) (hk : Gok n A) {col : tCol} {u k : Nat} (hK : kC K n A col u) (hc : Cok n col u) (hS : S.1 = nI k) (hk30 : k ≤ 30) : aRet 3 0 0 mX4_tightClique [.ref 8] (cp (nI n, nr, tn) K S L1 U L2 L3 C P r) (fun x g => x = some (.int (enT (tgt n A col k))) ∧ g = cp (nI n, nr, tn) K S L1 U L2 L3 C P r) := by
  have hn := hk.1
  refine aRet.of (by decide) (Nat.le_of_ble_eq_true rfl) (a_ok2 rfl) ?_
  refine g_iconst (v := 0) (pc1 := 1) dX4_tightClique_0 rfl (by decide) ?_
  refine g_istore_n (i := 1) (pc1 := 2) dX4_tightClique_1 rfl rfl (Nat.le_of_ble_eq_true rfl) ?_
  refine g_iconst (v := 0) (pc1 := 3) dX4_tightClique_2 rfl (by decide) ?_
  refine g_istore_n (i := 2) (pc1 := 4) dX4_tightClique_3 rfl rfl (Nat.le_of_ble_eq_true rfl) ?_
  refine g_aload_n (i := 0) (pc1 := 5) dX4_tightClique_4 rfl rfl rfl ?_
  refine g_get (pc1 := 8) dX4_tightClique_5 rfl flX4_32 rfl rfl ?_
  refine g_get (pc1 := 11) dX4_tightClique_8 rfl flX4_48 rfl rfl ?_
  refine g_istore_n (i := 3) (pc1 := 12) dX4_tightClique_11 rfl rfl (Nat.le_of_ble_eq_true rfl) ?_
  refine g_iconst (v := 1) (pc1 := 13) dX4_tightClique_12 rfl (by decide) ?_
  refine g_istore (pc1 := 15) dX4_tightClique_13 rfl (Nat.le_of_ble_eq_true rfl) ?_
  rw [hK.2.2.2.1]
  have key : tgt n A col k = tg n A col k (n - 0) 0 → aGo (3, 0, 0, mX4_tightClique, none, fun x g => x = some (.int (enT (tgt n A col k))) ∧ g = cp (nI n, nr, tn) K S L1 U L2 L3 C P r) 15 [.ref 8, .int (bS (tcl n A col 0).1), .int (bS (frS n A col k (tcl n A col 0).1)), .int (bS (tcl n A col 0).2), .int (nI (0 + 1)), .null] [] (cp (nI n, nr, tn) K S L1 U L2 L3 C P r) 0 0 := by
    refine down0 (P := fun i => tgt n A col k = tg n A col k (n - i) i → aGo _ 15 [.ref 8, .int (bS (tcl n A col i).1), .int (bS (frS n A col k (tcl n A col i).1)), .int (bS (tcl n A col i).2), .int (nI (i + 1)), .null] [] (cp (nI n, nr, tn) K S L1 U L2 L3 C P r) 0 0) n ?_ ?_
    · intro ht
      refine g_iload (pc1 := 17) dX4_tightClique_15 rfl rfl ?_
      refine g_aload_n (i := 0) (pc1 := 18) dX4_tightClique_17 rfl rfl rfl ?_
      refine g_get (pc1 := 21) dX4_tightClique_18 rfl flX4_28 rfl rfl ?_
      refine g_get (pc1 := 24) dX4_tightClique_21 rfl flX4_62 rfl rfl ?_
      refine g_icmp_gt (pc1 := 27) (tgt := 98) dX4_tightClique_24 rfl (by decide) (fun _ => ?_) (fun c => absurd ((nI_ltI (a := n) (b := n + 1) (by omega) (by omega)).mpr (by omega)) c)
      refine g_iconst (v := 0) (pc1 := 99) dX4_tightClique_98 rfl (by decide) ?_
      refine g_iret dX4_tightClique_99 rfl rfl (Nat.le_of_ble_eq_true rfl) (Nat.le_of_ble_eq_true rfl) ?_
      refine ⟨?_, rfl⟩
      rw [ht, Nat.sub_self]; rfl
    · intro i hi ih ht
      rw [show n - i = (n - (i + 1)) + 1 by omega] at ht
      refine g_iload (pc1 := 17) dX4_tightClique_15 rfl rfl ?_
      refine g_aload_n (i := 0) (pc1 := 18) dX4_tightClique_17 rfl rfl rfl ?_
      refine g_get (pc1 := 21) dX4_tightClique_18 rfl flX4_28 rfl rfl ?_
      refine g_get (pc1 := 24) dX4_tightClique_21 rfl flX4_62 rfl rfl ?_
      refine g_icmp_gt (pc1 := 27) (tgt := 98) dX4_tightClique_24 rfl (by decide) (fun c => absurd c (fun c => absurd ((nI_ltI (a := n) (b := i + 1) (by omega) (by omega)).mp c) (by omega))) (fun _ => ?_)
      refine g_aload_n (i := 0) (pc1 := 28) dX4_tightClique_27 rfl rfl rfl ?_
      refine g_get (pc1 := 31) dX4_tightClique_28 rfl flX4_32 rfl rfl ?_
      refine g_iload_n (i := 3) (pc1 := 32) dX4_tightClique_31 rfl rfl rfl ?_
      refine g_V1 (M := mX1_foremost) (pc1 := 35) dX4_tightClique_32 rfl lkX4_65 tmX1_foremost rfl (c_foremost n nr tn K S L1 U L2 L3 C P r hg hk hK hc (tcl n A col i).2) (Nat.le_of_ble_eq_true rfl) rfl (Nat.le_of_ble_eq_true rfl) (Nat.le_of_ble_eq_true rfl) ?_
      rintro _ _ ⟨rfl, rfl⟩
      refine g_istore (pc1 := 37) dX4_tightClique_35 rfl (Nat.le_of_ble_eq_true rfl) ?_
      refine g_iload (pc1 := 39) dX4_tightClique_37 rfl rfl ?_
      refine g_iconst (v := (-1)) (pc1 := 40) dX4_tightClique_39 rfl (by decide) ?_
      unfold tg at ht
      cases h1 : amx (tcl n A col i).2 (foF n A col) n with
      | none =>
        rw [h1] at ht
        refine g_icmp_ne (pc1 := 43) (tgt := 45) dX4_tightClique_40 rfl (by decide) (fun c => absurd c (fun h => h rfl)) (fun _ => ?_)
        refine g_iconst (v := 0) (pc1 := 44) dX4_tightClique_43 rfl (by decide) ?_
        refine g_iret dX4_tightClique_44 rfl rfl (Nat.le_of_ble_eq_true rfl) (Nat.le_of_ble_eq_true rfl) ?_
        exact ⟨by rw [ht]; rfl, rfl⟩
      | some v =>
        have hv := (amx_some h1).1
        rw [h1] at ht
        have hne : ¬ enO (some v) = -1 := fun e => by
          have := (enO_ne (o := some v) (fun w hw => by cases hw; omega)).mp e
          cases this
        refine g_icmp_ne (pc1 := 43) (tgt := 45) dX4_tightClique_40 rfl (by decide) (fun _ => ?_) (fun c => absurd c hne)
        show aGo _ 45 [.ref 8, .int (bS (tcl n A col i).1), .int (bS (frS n A col k (tcl n A col i).1)), .int (bS (tcl n A col i).2), .int (nI (i + 1)), .int (nI v)] _ _ _ _
        refine g_iload_n (i := 1) (pc1 := 46) dX4_tightClique_45 rfl rfl rfl ?_
        refine g_iconst (v := 1) (pc1 := 47) dX4_tightClique_46 rfl (by decide) ?_
        refine g_iload (pc1 := 49) dX4_tightClique_47 rfl rfl ?_
        refine g_ishl (pc1 := 50) dX4_tightClique_49 rfl ?_
        refine g_ior (pc1 := 51) dX4_tightClique_50 rfl ?_
        refine g_istore_n (i := 1) (pc1 := 52) dX4_tightClique_51 rfl rfl (Nat.le_of_ble_eq_true rfl) ?_
        refine g_iload_n (i := 2) (pc1 := 53) dX4_tightClique_52 rfl rfl rfl ?_
        refine g_aload_n (i := 0) (pc1 := 54) dX4_tightClique_53 rfl rfl rfl ?_
        refine g_get (pc1 := 57) dX4_tightClique_54 rfl flX4_32 rfl rfl ?_
        refine g_iload (pc1 := 59) dX4_tightClique_57 rfl rfl ?_
        refine g_aload_n (i := 0) (pc1 := 60) dX4_tightClique_59 rfl rfl rfl ?_
        refine g_get (pc1 := 63) dX4_tightClique_60 rfl flX4_9 rfl rfl ?_
        rw [hS]
        refine g_V2 (M := mX1_freeWith) (pc1 := 66) dX4_tightClique_63 rfl lkX4_68 tmX1_freeWith rfl (c_freeWith n nr tn K S L1 U L2 L3 C P r hK (v := v) (k := k) (by omega) hk30) (Nat.le_of_ble_eq_true rfl) rfl (Nat.le_of_ble_eq_true rfl) (Nat.le_of_ble_eq_true rfl) ?_
        rintro _ _ ⟨rfl, rfl⟩
        show aGo _ 66 _ [.int _, .int _] _ _ _
        refine g_ior (pc1 := 67) dX4_tightClique_66 rfl ?_
        refine g_istore_n (i := 2) (pc1 := 68) dX4_tightClique_67 rfl rfl (Nat.le_of_ble_eq_true rfl) ?_
        refine g_iload_n (i := 2) (pc1 := 69) dX4_tightClique_68 rfl rfl rfl ?_
        have eT : bS (tcl n A col i).1 ||| (1 : Int32) <<< (nI v &&& 31) = bS (tcl n A col (i + 1)).1 := by rw [bS_bit (by omega), bS_or, tcl_succ h1]
        have eF : bS (frS n A col k (tcl n A col i).1) ||| bS (fun c => decide (c < k) && !hC n A col v c) = bS (frS n A col k (tcl n A col (i + 1)).1) := by
          rw [bS_or, tcl_succ h1]
          exact bS_congr fun c _ => (frS_add hv c).symm
        have eO : bS (tcl n A col i).2 &&& nr v = bS (tcl n A col (i + 1)).2 := by rw [show nr v = bS (A v) from hg.row (by omega), bS_and, tcl_succ h1]
        rw [eT, eF]
        refine g_S1 (M := mJ6_bitCount_0f7a4) (pc1 := 72) dX4_tightClique_69 rfl lkX4_71 tmJ6_bitCount_0f7a4 (c_bitCount _) (Nat.le_of_ble_eq_true rfl) rfl (Nat.le_of_ble_eq_true rfl) (Nat.le_of_ble_eq_true rfl) ?_
        rintro _ _ ⟨rfl, rfl⟩
        rw [cnt_bS, cnt_frS hk30]
        have hcl := cnt_le (frS n A col k (tcl n A col (i + 1)).1) 30
        refine g_iload (pc1 := 74) dX4_tightClique_72 rfl rfl ?_
        refine g_icmp_ge (pc1 := 77) (tgt := 79) dX4_tightClique_74 rfl (by decide) (fun c9 => ?_) (fun c9 => ?_)
        · have h5 : ¬ cnt (frS n A col k (tcl n A col (i + 1)).1) 30 < i + 1 := by
            have := (nI_leI (a := i + 1) (b := cnt (frS n A col k (tcl n A col (i + 1)).1) 30) (by omega) (by omega)).mp c9
            omega
          refine g_iload_n (i := 3) (pc1 := 80) dX4_tightClique_79 rfl rfl rfl ?_
          refine g_aload_n (i := 0) (pc1 := 81) dX4_tightClique_80 rfl rfl rfl ?_
          refine g_get (pc1 := 84) dX4_tightClique_81 rfl flX4_28 rfl rfl ?_
          refine g_get (pc1 := 87) dX4_tightClique_84 rfl flX4_76 rfl rfl ?_
          refine g_iload (pc1 := 89) dX4_tightClique_87 rfl rfl ?_
          refine g_ialdJ (pc1 := 90) dX4_tightClique_89 rfl rfl rfl (by omega) (by decide) ?_
          refine g_iand (pc1 := 91) dX4_tightClique_90 rfl ?_
          refine g_istore_n (i := 3) (pc1 := 92) dX4_tightClique_91 rfl rfl (Nat.le_of_ble_eq_true rfl) ?_
          refine g_iinc (pc1 := 95) dX4_tightClique_92 rfl rfl rfl ?_
          refine g_goto (tgt := 15) dX4_tightClique_95 (by decide) ?_
          refine aGo.forget 5 ?_
          refine aGo.eq (ih (by rw [ht]; exact if_neg h5)) ?_ rfl rfl
          show [Value.ref 8, .int (bS (tcl n A col (i + 1)).1), .int (bS (frS n A col k (tcl n A col (i + 1)).1)), .int (bS (tcl n A col i).2 &&& nr v), .int (nI (i + 1) + Int32.ofInt 1), .null] = _
          rw [eO, show nI (i + 1) + Int32.ofInt 1 = nI (i + 1 + 1) from nI_1 _]
        · have h5 : cnt (frS n A col k (tcl n A col (i + 1)).1) 30 < i + 1 := by
            have : ¬ i + 1 ≤ cnt (frS n A col k (tcl n A col (i + 1)).1) 30 := fun q => c9 ((nI_leI (a := i + 1) (b := cnt (frS n A col k (tcl n A col (i + 1)).1) 30) (by omega) (by omega)).mpr q)
            omega
          refine g_iload_n (i := 1) (pc1 := 78) dX4_tightClique_77 rfl rfl rfl ?_
          refine g_iret dX4_tightClique_78 rfl rfl (Nat.le_of_ble_eq_true rfl) (Nat.le_of_ble_eq_true rfl) ?_
          refine ⟨?_, rfl⟩
          rw [ht]
          show _ = some (Value.int (enT (if cnt (frS n A col k (tcl n A col (i + 1)).1) 30 < i + 1 then some (tcl n A col (i + 1)).1 else _)))
          rw [if_pos h5]
          rfl
  refine aGo.eq (key rfl) ?_ rfl rfl
  show [Value.ref 8, .int 0, .int 0, .int (bS (brP n col)), .int 1, .null] = _
  have e1 : bS (frS n A col k (tcl n A col 0).1) = 0 := bS_eq0.mpr fun c _ => by
    unfold frS
    rw [show ex (fun v => (tcl n A col 0).1 v && !hC n A col v c) n = false from ex_false.mpr fun v _ => rfl]; simp
  rw [e1, show bS (tcl n A col 0).1 = 0 from bS_0.symm]
  rfl
end
