/-! ===== the graph of the class ===== -/
def Gok (n : Nat) (A : Nat → Nat → Bool) : Prop := n ≤ 30 ∧ (∀ v w, A v w = A w v) ∧ (∀ v, A v v = false) ∧ (∀ v w, A v w = true → v < n ∧ w < n)
def gC (G : tG) (n : Nat) (A : Nat → Nat → Bool) : Prop := G.1 = nI n ∧ ∀ v, v < 30 → ∀ i, bt (G.2.1 v) i = A v i
def dg (A : Nat → Nat → Bool) (n v : Nat) : Nat := cnt (A v) n
theorem Gok.out {n : Nat} {A : Nat → Nat → Bool} (h : Gok n A) {v w : Nat} (hw : n ≤ w) : A v w = false := by
  cases hA : A v w with
  | false => rfl
  | true => have := (h.2.2.2 v w hA).2; omega
theorem Gok.out1 {n : Nat} {A : Nat → Nat → Bool} (h : Gok n A) {v w : Nat} (hv : n ≤ v) : A v w = false := by rw [h.2.1]; exact h.out hv
theorem gC.row {G : tG} {n : Nat} {A : Nat → Nat → Bool} (h : gC G n A) {v : Nat} (hv : v < 30) : G.2.1 v = bS (A v) := bS_eq (fun i _ => h.2 v hv i)
theorem gC.cnt {G : tG} {n : Nat} {A : Nat → Nat → Bool} (h : gC G n A) (hk : Gok n A) {v : Nat} (hv : v < 30) : cnt (bt (G.2.1 v)) 32 = dg A n v := by
  rw [cnt_congr (fun i _ => h.2 v hv i)]
  exact cnt_more (by have := hk.1; omega) (fun i h1 _ => hk.out h1)
theorem dg_le (A : Nat → Nat → Bool) (n v : Nat) : dg A n v ≤ n := cnt_le _ _
theorem Gok.dg_lt {n : Nat} {A : Nat → Nat → Bool} (h : Gok n A) {v : Nat} (hv : v < n) : dg A n v < n := by
  have h1 : cnt (A v) (v + 1) ≤ v := by
    show cnt (A v) v + (if A v v then 1 else 0) ≤ v
    rw [h.2.2.1 v]
    have := cnt_le (A v) v
    simp; omega
  obtain ⟨k, hk⟩ : ∃ k, n = v + 1 + k := ⟨n - (v + 1), by omega⟩
  show cnt (A v) n < n
  rw [hk, cnt_add]
  have := cnt_le (fun i => A v (v + 1 + i)) k
  omega
section
variable (G : tG) (K : tK) (S : tS) (L1 : tL) (U : tU) (L2 L3 : tL) (C : Int32 × Int32) (P : fI) (r : List aC)
theorem c_restart (x : Int32) : aRet 1 0 0 mX2_restart [.ref 1, .int x] (cp G K S L1 U L2 L3 C P r) (fun v g => v = none ∧ g = cp (x, fil 30 0 G.2.1, G.2.2) K S L1 U L2 L3 C P r) := by
  refine aRet.of (by decide) (Nat.le_of_ble_eq_true rfl) (a_ok2 rfl) ?_
  refine g_aload_n (i := 0) (pc1 := 1) dX2_restart_0 rfl rfl rfl ?_
  refine g_iload_n (i := 1) (pc1 := 2) dX2_restart_1 rfl rfl rfl ?_
  refine g_puti (pc1 := 5) dX2_restart_2 rfl flX2_9 rfl (Nat.le_of_ble_eq_true rfl) rfl rfl ?_
  refine g_aload_n (i := 0) (pc1 := 6) dX2_restart_5 rfl rfl rfl ?_
  refine g_get (pc1 := 9) dX2_restart_6 rfl flX2_15 rfl rfl ?_
  refine g_iconst (v := 0) (pc1 := 10) dX2_restart_9 rfl (by decide) ?_
  refine g_S2 (M := mJ7_fill_53178) (pc1 := 13) dX2_restart_10 rfl lkX2_22 tmJ7_fill_53178 (c_fill (q := 2) (by decide) rfl 0) (Nat.le_of_ble_eq_true rfl) rfl (Nat.le_of_ble_eq_true rfl) (Nat.le_of_ble_eq_true rfl) ?_
  rintro _ _ ⟨rfl, rfl⟩
  refine g_vret dX2_restart_13 rfl (Nat.le_of_ble_eq_true rfl) (Nat.le_of_ble_eq_true rfl) ?_
  exact ⟨rfl, rfl⟩
theorem c_all {n : Nat} (hn : n ≤ 30) (hG : G.1 = nI n) : aRet 1 0 0 mX2_all [.ref 1] (cp G K S L1 U L2 L3 C P r) (fun v g => v = some (.int (bS (fun i => decide (i < n)))) ∧ g = cp G K S L1 U L2 L3 C P r) := by
  refine aRet.of (by decide) (Nat.le_of_ble_eq_true rfl) (a_ok2 rfl) ?_
  refine g_aload_n (i := 0) (pc1 := 1) dX2_all_0 rfl rfl rfl ?_
  refine g_get (pc1 := 4) dX2_all_1 rfl flX2_9 rfl rfl ?_
  rw [hG]
  refine g_SN1 (M := mX7_firstOnes) (pc1 := 7) dX2_all_4 rfl ⟨rfl, lnX2_28⟩ tmX7_firstOnes (c_firstOnes hn) (Nat.le_of_ble_eq_true rfl) rfl (Nat.le_of_ble_eq_true rfl) (Nat.le_of_ble_eq_true rfl) ?_
  rintro _ _ ⟨rfl, rfl⟩
  refine g_iret dX2_all_7 rfl rfl (Nat.le_of_ble_eq_true rfl) (Nat.le_of_ble_eq_true rfl) ?_
  exact ⟨rfl, rfl⟩
theorem c_joined {n : Nat} {A : Nat → Nat → Bool} (hC : gC G n A) {a b : Nat} (ha : a < 30) (hb : b < 32) : aRet 1 0 0 mX2_joined [.ref 1, .int (nI a), .int (nI b)] (cp G K S L1 U L2 L3 C P r) (fun v g => v = some (.int (bI (A a b))) ∧ g = cp G K S L1 U L2 L3 C P r) := by
  refine aRet.of (by decide) (Nat.le_of_ble_eq_true rfl) (a_ok2 rfl) ?_
  refine g_aload_n (i := 0) (pc1 := 1) dX2_joined_0 rfl rfl rfl ?_
  refine g_get (pc1 := 4) dX2_joined_1 rfl flX2_15 rfl rfl ?_
  refine g_iload_n (i := 1) (pc1 := 5) dX2_joined_4 rfl rfl rfl ?_
  refine g_ialdJ (pc1 := 6) dX2_joined_5 rfl rfl rfl ha (by decide) ?_
  refine g_iload_n (i := 2) (pc1 := 7) dX2_joined_6 rfl rfl rfl ?_
  refine g_SN2 (M := mX7_contains) (pc1 := 10) dX2_joined_7 rfl ⟨rfl, lnX2_32⟩ tmX7_contains (c_contains _ hb) (Nat.le_of_ble_eq_true rfl) rfl (Nat.le_of_ble_eq_true rfl) (Nat.le_of_ble_eq_true rfl) ?_
  rintro _ _ ⟨rfl, rfl⟩
  refine g_iret dX2_joined_10 rfl (bI_nar _) (Nat.le_of_ble_eq_true rfl) (Nat.le_of_ble_eq_true rfl) ?_
  exact ⟨by rw [← hC.2 a ha b], rfl⟩
theorem c_degreeOf {n : Nat} {A : Nat → Nat → Bool} (hC : gC G n A) (hk : Gok n A) {v : Nat} (hv : v < 30) : aRet 1 0 0 mX2_degreeOf [.ref 1, .int (nI v)] (cp G K S L1 U L2 L3 C P r) (fun w g => w = some (.int (nI (dg A n v))) ∧ g = cp G K S L1 U L2 L3 C P r) := by
  refine aRet.of (by decide) (Nat.le_of_ble_eq_true rfl) (a_ok2 rfl) ?_
  refine g_aload_n (i := 0) (pc1 := 1) dX2_degreeOf_0 rfl rfl rfl ?_
  refine g_get (pc1 := 4) dX2_degreeOf_1 rfl flX2_15 rfl rfl ?_
  refine g_iload_n (i := 1) (pc1 := 5) dX2_degreeOf_4 rfl rfl rfl ?_
  refine g_ialdJ (pc1 := 6) dX2_degreeOf_5 rfl rfl rfl hv (by decide) ?_
  refine g_S1 (M := mJ6_bitCount_0f7a4) (pc1 := 9) dX2_degreeOf_6 rfl lkX2_36 tmJ6_bitCount_0f7a4 (c_bitCount _) (Nat.le_of_ble_eq_true rfl) rfl (Nat.le_of_ble_eq_true rfl) (Nat.le_of_ble_eq_true rfl) ?_
  rintro _ _ ⟨rfl, rfl⟩
  refine g_iret dX2_degreeOf_9 rfl rfl (Nat.le_of_ble_eq_true rfl) (Nat.le_of_ble_eq_true rfl) ?_
  exact ⟨by rw [hC.cnt hk hv], rfl⟩
theorem c_edges {n : Nat} {A : Nat → Nat → Bool} (hC : gC G n A) (hk : Gok n A) : aRet 2 0 0 mX2_edges [.ref 1] (cp G K S L1 U L2 L3 C P r) (fun w g => w = some (.int (nI (sumN (dg A n) n / 2))) ∧ g = cp G K S L1 U L2 L3 C P r) := by
  have hn := hk.1
  have hs : ∀ i, i ≤ n → sumN (dg A n) i ≤ 900 := fun i hi => by
    have h1 := sumN_le (f := dg A n) (B := 30) (n := i) (fun j _ => by have := dg_le A n j; omega)
    omega
  refine aRet.of (by decide) (Nat.le_of_ble_eq_true rfl) (a_ok2 rfl) ?_
  refine g_iconst (v := 0) (pc1 := 1) dX2_edges_0 rfl (by decide) ?_
  refine g_istore_n (i := 1) (pc1 := 2) dX2_edges_1 rfl rfl (Nat.le_of_ble_eq_true rfl) ?_
  refine g_iconst (v := 0) (pc1 := 3) dX2_edges_2 rfl (by decide) ?_
  refine g_istore_n (i := 2) (pc1 := 4) dX2_edges_3 rfl rfl (Nat.le_of_ble_eq_true rfl) ?_
  refine down0 (P := fun i => aGo _ 4 [.ref 1, .int (nI (sumN (dg A n) i)), .int (nI i)] [] (cp G K S L1 U L2 L3 C P r) 0 0) n ?_ ?_
  · refine g_iload_n (i := 2) (pc1 := 5) dX2_edges_4 rfl rfl rfl ?_
    refine g_aload_n (i := 0) (pc1 := 6) dX2_edges_5 rfl rfl rfl ?_
    refine g_get (pc1 := 9) dX2_edges_6 rfl flX2_9 rfl rfl ?_
    rw [hC.1]
    refine g_icmp_ge (pc1 := 12) (tgt := 26) dX2_edges_9 rfl (by decide) (fun _ => ?_) (fun c => absurd (Int32.le_refl _) c)
    refine g_iload_n (i := 1) (pc1 := 27) dX2_edges_26 rfl rfl rfl ?_
    refine g_iconst (v := 2) (pc1 := 28) dX2_edges_27 rfl (by decide) ?_
    refine g_idiv (pc1 := 29) dX2_edges_28 rfl (by decide) ?_
    rw [show (2 : Int32) = nI 2 from rfl, pk_div (by have := hs n (Nat.le_refl _); omega) (by decide) (by decide)]
    refine g_iret dX2_edges_29 rfl rfl (Nat.le_of_ble_eq_true rfl) (Nat.le_of_ble_eq_true rfl) ?_
    exact ⟨rfl, rfl⟩
  · intro i hi ih
    refine g_iload_n (i := 2) (pc1 := 5) dX2_edges_4 rfl rfl rfl ?_
    refine g_aload_n (i := 0) (pc1 := 6) dX2_edges_5 rfl rfl rfl ?_
    refine g_get (pc1 := 9) dX2_edges_6 rfl flX2_9 rfl rfl ?_
    rw [hC.1]
    refine g_icmp_ge (pc1 := 12) (tgt := 26) dX2_edges_9 rfl (by decide) (fun c => absurd c (fun c => absurd ((nI_leI (a := n) (b := i) (by omega) (by omega)).mp c) (by omega))) (fun _ => ?_)
    refine g_iload_n (i := 1) (pc1 := 13) dX2_edges_12 rfl rfl rfl ?_
    refine g_aload_n (i := 0) (pc1 := 14) dX2_edges_13 rfl rfl rfl ?_
    refine g_iload_n (i := 2) (pc1 := 15) dX2_edges_14 rfl rfl rfl ?_
    refine g_V1 (M := mX2_degreeOf) (pc1 := 18) dX2_edges_15 rfl lkX2_41 tmX2_degreeOf rfl (c_degreeOf G K S L1 U L2 L3 C P r hC hk (v := i) (by omega)) (Nat.le_of_ble_eq_true rfl) rfl (Nat.le_of_ble_eq_true rfl) (Nat.le_of_ble_eq_true rfl) ?_
    rintro _ _ ⟨rfl, rfl⟩
    show aGo _ 18 _ [.int _, .int _] _ _ _
    refine g_iadd (pc1 := 19) dX2_edges_18 rfl ?_
    refine g_istore_n (i := 1) (pc1 := 20) dX2_edges_19 rfl rfl (Nat.le_of_ble_eq_true rfl) ?_
    refine g_iinc (pc1 := 23) dX2_edges_20 rfl rfl rfl ?_
    refine g_goto (tgt := 4) dX2_edges_23 (by decide) ?_
    refine aGo.eq ih ?_ rfl rfl
    show [Value.ref 1, .int (nI (sumN (dg A n) i) + nI (dg A n i)), .int (nI i + Int32.ofInt 1)] = _
    rw [nI_add, show nI i + Int32.ofInt 1 = nI (i + 1) from nI_1 i]
    rfl
theorem c_greatestDegree {n : Nat} {A : Nat → Nat → Bool} (hC : gC G n A) (hk : Gok n A) : aRet 2 0 0 mX2_greatestDegree [.ref 1] (cp G K S L1 U L2 L3 C P r) (fun w g => w = some (.int (nI (maxN (dg A n) n))) ∧ g = cp G K S L1 U L2 L3 C P r) := by
  have hn := hk.1
  have hs : ∀ i, maxN (dg A n) i ≤ 30 := fun i => maxN_le (fun j _ => by have := dg_le A n j; omega)
  refine aRet.of (by decide) (Nat.le_of_ble_eq_true rfl) (a_ok2 rfl) ?_
  refine g_iconst (v := 0) (pc1 := 1) dX2_greatestDegree_0 rfl (by decide) ?_
  refine g_istore_n (i := 1) (pc1 := 2) dX2_greatestDegree_1 rfl rfl (Nat.le_of_ble_eq_true rfl) ?_
  refine g_iconst (v := 0) (pc1 := 3) dX2_greatestDegree_2 rfl (by decide) ?_
  refine g_istore_n (i := 2) (pc1 := 4) dX2_greatestDegree_3 rfl rfl (Nat.le_of_ble_eq_true rfl) ?_
  refine down0 (P := fun i => aGo _ 4 [.ref 1, .int (nI (maxN (dg A n) i)), .int (nI i)] [] (cp G K S L1 U L2 L3 C P r) 0 0) n ?_ ?_
  · refine g_iload_n (i := 2) (pc1 := 5) dX2_greatestDegree_4 rfl rfl rfl ?_
    refine g_aload_n (i := 0) (pc1 := 6) dX2_greatestDegree_5 rfl rfl rfl ?_
    refine g_get (pc1 := 9) dX2_greatestDegree_6 rfl flX2_9 rfl rfl ?_
    rw [hC.1]
    refine g_icmp_ge (pc1 := 12) (tgt := 28) dX2_greatestDegree_9 rfl (by decide) (fun _ => ?_) (fun c => absurd (Int32.le_refl _) c)
    refine g_iload_n (i := 1) (pc1 := 29) dX2_greatestDegree_28 rfl rfl rfl ?_
    refine g_iret dX2_greatestDegree_29 rfl rfl (Nat.le_of_ble_eq_true rfl) (Nat.le_of_ble_eq_true rfl) ?_
    exact ⟨rfl, rfl⟩
  · intro i hi ih
    refine g_iload_n (i := 2) (pc1 := 5) dX2_greatestDegree_4 rfl rfl rfl ?_
    refine g_aload_n (i := 0) (pc1 := 6) dX2_greatestDegree_5 rfl rfl rfl ?_
    refine g_get (pc1 := 9) dX2_greatestDegree_6 rfl flX2_9 rfl rfl ?_
    rw [hC.1]
    refine g_icmp_ge (pc1 := 12) (tgt := 28) dX2_greatestDegree_9 rfl (by decide) (fun c => absurd c (fun c => absurd ((nI_leI (a := n) (b := i) (by omega) (by omega)).mp c) (by omega))) (fun _ => ?_)
    refine g_iload_n (i := 1) (pc1 := 13) dX2_greatestDegree_12 rfl rfl rfl ?_
    refine g_aload_n (i := 0) (pc1 := 14) dX2_greatestDegree_13 rfl rfl rfl ?_
    refine g_iload_n (i := 2) (pc1 := 15) dX2_greatestDegree_14 rfl rfl rfl ?_
    refine g_V1 (M := mX2_degreeOf) (pc1 := 18) dX2_greatestDegree_15 rfl lkX2_41 tmX2_degreeOf rfl (c_degreeOf G K S L1 U L2 L3 C P r hC hk (v := i) (by omega)) (Nat.le_of_ble_eq_true rfl) rfl (Nat.le_of_ble_eq_true rfl) (Nat.le_of_ble_eq_true rfl) ?_
    rintro _ _ ⟨rfl, rfl⟩
    refine g_mmax (pc1 := 21) dX2_greatestDegree_18 rfl lkX2_44 (Nat.le_of_ble_eq_true rfl) rfl (Nat.le_of_ble_eq_true rfl) (Nat.le_of_ble_eq_true rfl) ?_
    refine g_istore_n (i := 1) (pc1 := 22) dX2_greatestDegree_21 rfl rfl (Nat.le_of_ble_eq_true rfl) ?_
    refine g_iinc (pc1 := 25) dX2_greatestDegree_22 rfl rfl rfl ?_
    refine g_goto (tgt := 4) dX2_greatestDegree_25 (by decide) ?_
    refine aGo.eq ih ?_ rfl rfl
    show [Value.ref 1, .int (if nI (maxN (dg A n) i) < nI (dg A n i) then nI (dg A n i) else nI (maxN (dg A n) i)), .int (nI i + Int32.ofInt 1)] = _
    rw [show nI i + Int32.ofInt 1 = nI (i + 1) from nI_1 i]
    have h1 := hs i
    have h2 := dg_le A n i
    have h3 := nI_ltI (a := maxN (dg A n) i) (b := dg A n i) (by omega) (by omega)
    show _ = [Value.ref 1, .int (nI (if maxN (dg A n) i < dg A n i then dg A n i else maxN (dg A n) i)), .int (nI (i + 1))]
    by_cases h4 : maxN (dg A n) i < dg A n i
    · rw [if_pos h4, if_pos (h3.mpr h4)]
    · rw [if_neg h4, if_neg (fun q => h4 (h3.mp q))]
/-- an edge changes -/
def flA (A : Nat → Nat → Bool) (a b : Nat) : Nat → Nat → Bool := fun v w => A v w ^^ ((decide (v = a) && decide (w = b)) || (decide (v = b) && decide (w = a)))
theorem c_flip {n : Nat} {A : Nat → Nat → Bool} (hC : gC G n A) {a b : Nat} (ha : a < 30) (hb : b < 30) (hab : a ≠ b) : aRet 0 0 0 mX2_flip [.ref 1, .int (nI a), .int (nI b)] (cp G K S L1 U L2 L3 C P r) (fun v g => v = none ∧ ∃ nr : fI, gC (G.1, nr, G.2.2) n (flA A a b) ∧ g = cp (G.1, nr, G.2.2) K S L1 U L2 L3 C P r) := by
  refine aRet.of (by decide) (Nat.le_of_ble_eq_true rfl) (a_ok2 rfl) ?_
  refine g_aload_n (i := 0) (pc1 := 1) dX2_flip_0 rfl rfl rfl ?_
  refine g_get (pc1 := 4) dX2_flip_1 rfl flX2_15 rfl rfl ?_
  refine g_iload_n (i := 1) (pc1 := 5) dX2_flip_4 rfl rfl rfl ?_
  refine g_dup2 (pc1 := 6) dX2_flip_5 rfl rfl rfl ?_
  refine g_ialdJ (pc1 := 7) dX2_flip_6 rfl rfl rfl ha (by decide) ?_
  refine g_iconst (v := 1) (pc1 := 8) dX2_flip_7 rfl (by decide) ?_
  refine g_iload_n (i := 2) (pc1 := 9) dX2_flip_8 rfl rfl rfl ?_
  refine g_ishl (pc1 := 10) dX2_flip_9 rfl ?_
  refine g_ixor (pc1 := 11) dX2_flip_10 rfl ?_
  refine g_iastJ (pc1 := 12) dX2_flip_11 rfl rfl rfl ha (by decide) ?_
  refine g_aload_n (i := 0) (pc1 := 13) dX2_flip_12 rfl rfl rfl ?_
  refine g_get (pc1 := 16) dX2_flip_13 rfl flX2_15 rfl rfl ?_
  refine g_iload_n (i := 2) (pc1 := 17) dX2_flip_16 rfl rfl rfl ?_
  refine g_dup2 (pc1 := 18) dX2_flip_17 rfl rfl rfl ?_
  refine g_ialdJ (pc1 := 19) dX2_flip_18 rfl rfl rfl hb (by decide) ?_
  refine g_iconst (v := 1) (pc1 := 20) dX2_flip_19 rfl (by decide) ?_
  refine g_iload_n (i := 1) (pc1 := 21) dX2_flip_20 rfl rfl rfl ?_
  refine g_ishl (pc1 := 22) dX2_flip_21 rfl ?_
  refine g_ixor (pc1 := 23) dX2_flip_22 rfl ?_
  refine g_iastJ (pc1 := 24) dX2_flip_23 rfl rfl rfl hb (by decide) ?_
  refine g_vret dX2_flip_24 rfl (Nat.le_of_ble_eq_true rfl) (Nat.le_of_ble_eq_true rfl) ?_
  refine ⟨rfl, upd (upd G.2.1 a (G.2.1 a ^^^ ((1 : Int32) <<< (nI b &&& 31)))) b (upd G.2.1 a (G.2.1 a ^^^ ((1 : Int32) <<< (nI b &&& 31))) b ^^^ ((1 : Int32) <<< (nI a &&& 31))), ⟨hC.1, fun v hv i => ?_⟩, rfl⟩
  show bt (upd (upd G.2.1 a (G.2.1 a ^^^ _)) b (upd G.2.1 a (G.2.1 a ^^^ _) b ^^^ _) v) i = _
  simp only [upd, flA]
  rw [if_neg (Ne.symm hab)]
  by_cases h1 : v = b
  · subst h1
    rw [if_pos rfl, b_xor, bt_bit (by omega), hC.2 v hv]
    simp [Ne.symm hab]
  · rw [if_neg h1]
    by_cases h2 : v = a
    · subst h2
      rw [if_pos rfl, b_xor, bt_bit (by omega), hC.2 v hv]
      simp [hab]
    · rw [if_neg h2, hC.2 v hv]
      simp [h1, h2]
end
