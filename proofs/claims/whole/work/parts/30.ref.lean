/-! ===== the reference: where its cells lie (behind the class's 24) ===== -/
abbrev tQ : Type := fI × fI
abbrev tF : Type := fI × fI × fI × Int32
abbrev tW : Type := fI × Int32
abbrev tM : Type := Int32 × fI × fI
def rp (x : Nat → aC) (N : tG) (Q : tQ) (F : tF) (W L T : tW) (V : tM) (P : fI) : List aC :=
  x 0 :: x 1 :: x 2 :: x 3 :: x 4 :: x 5 :: x 6 :: x 7 :: x 8 :: x 9 :: x 10 :: x 11 :: x 12 :: x 13 :: x 14 :: x 15 :: x 16 :: x 17 :: x 18 :: x 19 :: x 20 :: x 21 :: x 22 :: x 23 ::
  [.inr (8, [.int N.1, .ref 25, .ref 26, .ref 27, .ref 28, .ref 29, .ref 30, .ref 31, .ref 32, .int F.2.2.2, .ref 33, .int W.2, .ref 34, .int L.2, .ref 35, .int T.2, .int V.1, .ref 36, .ref 37]),
   .inl (true, 900, N.2.1), .inl (true, 900, N.2.2), .inl (false, 30, Q.1), .inl (false, 30, V.2.1), .inl (false, 30, P), .inl (false, 31, F.1), .inl (false, 31, F.2.1), .inl (false, 31, F.2.2.1),
   .inl (false, 6000, W.1), .inl (false, 6000, L.1), .inl (false, 6000, T.1), .inl (false, 5, V.2.2), .inl (true, 30, Q.2)]
def rG (N : tG) (n : Nat) (A : Nat → Nat → Bool) : Prop := N.1 = nI n ∧ ∀ a b, a < 30 → b < 30 → N.2.1 (30 * a + b) = bI (A a b)
def rK (c : fI) (col : tCol) : Prop := ∀ v, v < 30 → c v = enO (col v)
def rS (s : fI) (p : Nat → Bool) : Prop := ∀ v, v < 30 → s v = bI (p v)
def rL (W : tW) (lg : tLog) : Prop := W.2 = nI lg.length ∧ lg.length ≤ 3000 ∧ ∀ i a b, lg[i]? = some (a, b) → W.1 (2 * i) = a ∧ W.1 (2 * i + 1) = b
def stA (A : Nat → Nat → Bool) (a b : Nat) (on : Bool) : Nat → Nat → Bool := fun v w => if (v = a ∧ w = b) ∨ (v = b ∧ w = a) then on else A v w
theorem ix30 (a b : Nat) : (30 : Int32) * nI a + nI b = nI (30 * a + b) := by rw [show (30 : Int32) = nI 30 from rfl, pk_mul, nI_add]
section
variable (x : Nat → aC) (n : Nat) (nr ot : fI) (Q : tQ) (F : tF) (W L T : tW) (V : tM) (P : fI)
theorem r_isVertex (v : Int32) : aRet 0 0 0 mX8_isVertex [.ref 24, .int v] (rp x (nI n, nr, ot) Q F W L T V P) (fun w g => w = some (.int (bI (vtx n v))) ∧ g = rp x (nI n, nr, ot) Q F W L T V P) := by
  unfold vtx
  refine aRet.of (by decide) (Nat.le_of_ble_eq_true rfl) (a_ok2 rfl) ?_
  refine g_iload_n (i := 1) (pc1 := 1) dX8_isVertex_0 rfl rfl rfl ?_
  refine g_if_lt (pc1 := 4) (tgt := 16) dX8_isVertex_1 rfl (by decide) (fun c => ?_) (fun c => ?_)
  · refine g_iconst (v := 0) (pc1 := 17) dX8_isVertex_16 rfl (by decide) ?_
    refine g_iret dX8_isVertex_17 rfl rfl (Nat.le_of_ble_eq_true rfl) (Nat.le_of_ble_eq_true rfl) ?_
    exact ⟨by rw [decide_eq_false (by intro h; exact absurd c (Int32.not_lt.mpr h.1))]; rfl, rfl⟩
  · refine g_iload_n (i := 1) (pc1 := 5) dX8_isVertex_4 rfl rfl rfl ?_
    refine g_aload_n (i := 0) (pc1 := 6) dX8_isVertex_5 rfl rfl rfl ?_
    refine g_get (pc1 := 9) dX8_isVertex_6 rfl flX8_50 rfl rfl ?_
    refine g_icmp_ge (pc1 := 12) (tgt := 16) dX8_isVertex_9 rfl (by decide) (fun c2 => ?_) (fun c2 => ?_)
    · refine g_iconst (v := 0) (pc1 := 17) dX8_isVertex_16 rfl (by decide) ?_
      refine g_iret dX8_isVertex_17 rfl rfl (Nat.le_of_ble_eq_true rfl) (Nat.le_of_ble_eq_true rfl) ?_
      exact ⟨by rw [decide_eq_false (by intro h; exact absurd h.2 (Int32.not_lt.mpr c2))]; rfl, rfl⟩
    · refine g_iconst (v := 1) (pc1 := 13) dX8_isVertex_12 rfl (by decide) ?_
      refine g_goto (tgt := 17) dX8_isVertex_13 (by decide) ?_
      refine g_iret dX8_isVertex_17 rfl rfl (Nat.le_of_ble_eq_true rfl) (Nat.le_of_ble_eq_true rfl) ?_
      exact ⟨by rw [decide_eq_true ⟨Int32.not_lt.mp c, Int32.not_le.mp c2⟩]; rfl, rfl⟩
theorem r_isNear {A : Nat → Nat → Bool} (hg : rG (nI n, nr, ot) n A) {a b : Nat} (ha : a < 30) (hb : b < 30) : aRet 0 0 0 mX8_isNear [.ref 24, .int (nI a), .int (nI b)] (rp x (nI n, nr, ot) Q F W L T V P) (fun w g => w = some (.int (bI (A a b))) ∧ g = rp x (nI n, nr, ot) Q F W L T V P) := by
  refine aRet.of (by decide) (Nat.le_of_ble_eq_true rfl) (a_ok2 rfl) ?_
  refine g_aload_n (i := 0) (pc1 := 1) dX8_isNear_0 rfl rfl rfl ?_
  refine g_get (pc1 := 4) dX8_isNear_1 rfl flX8_7 rfl rfl ?_
  refine g_bipush (v := 30) (pc1 := 6) dX8_isNear_4 rfl (by decide) ?_
  refine g_iload_n (i := 1) (pc1 := 7) dX8_isNear_6 rfl rfl rfl ?_
  refine g_imul (pc1 := 8) dX8_isNear_7 rfl ?_
  refine g_iload_n (i := 2) (pc1 := 9) dX8_isNear_8 rfl rfl rfl ?_
  refine g_iadd (pc1 := 10) dX8_isNear_9 rfl ?_
  refine g_zaldJ (pc1 := 11) dX8_isNear_10 rfl rfl (ix30 a b) (by omega) (by decide) ?_
  rw [hg.2 a b ha hb]
  refine g_iret dX8_isNear_11 rfl (bI_nar _) (Nat.le_of_ble_eq_true rfl) (Nat.le_of_ble_eq_true rfl) ?_
  exact ⟨rfl, rfl⟩
theorem r_join {A : Nat → Nat → Bool} (hg : rG (nI n, nr, ot) n A) {a b : Nat} (ha : a < 30) (hb : b < 30) (on : Bool) : aRet 0 0 0 mX8_join [.ref 24, .int (nI a), .int (nI b), .int (bI on)] (rp x (nI n, nr, ot) Q F W L T V P) (fun w g => w = none ∧ ∃ nr' : fI, rG (nI n, nr', ot) n (stA A a b on) ∧ g = rp x (nI n, nr', ot) Q F W L T V P) := by
  refine aRet.of (by decide) (Nat.le_of_ble_eq_true rfl) (a_ok2 rfl) ?_
  refine g_aload_n (i := 0) (pc1 := 1) dX8_join_0 rfl rfl rfl ?_
  refine g_get (pc1 := 4) dX8_join_1 rfl flX8_7 rfl rfl ?_
  refine g_bipush (v := 30) (pc1 := 6) dX8_join_4 rfl (by decide) ?_
  refine g_iload_n (i := 1) (pc1 := 7) dX8_join_6 rfl rfl rfl ?_
  refine g_imul (pc1 := 8) dX8_join_7 rfl ?_
  refine g_iload_n (i := 2) (pc1 := 9) dX8_join_8 rfl rfl rfl ?_
  refine g_iadd (pc1 := 10) dX8_join_9 rfl ?_
  refine g_iload_n (i := 3) (pc1 := 11) dX8_join_10 rfl rfl rfl ?_
  refine g_zastJ (pc1 := 12) dX8_join_11 rfl rfl (ix30 a b) (by omega) (by decide) (bI_1 _) ?_
  refine g_aload_n (i := 0) (pc1 := 13) dX8_join_12 rfl rfl rfl ?_
  refine g_get (pc1 := 16) dX8_join_13 rfl flX8_7 rfl rfl ?_
  refine g_bipush (v := 30) (pc1 := 18) dX8_join_16 rfl (by decide) ?_
  refine g_iload_n (i := 2) (pc1 := 19) dX8_join_18 rfl rfl rfl ?_
  refine g_imul (pc1 := 20) dX8_join_19 rfl ?_
  refine g_iload_n (i := 1) (pc1 := 21) dX8_join_20 rfl rfl rfl ?_
  refine g_iadd (pc1 := 22) dX8_join_21 rfl ?_
  refine g_iload_n (i := 3) (pc1 := 23) dX8_join_22 rfl rfl rfl ?_
  refine g_zastJ (pc1 := 24) dX8_join_23 rfl rfl (ix30 b a) (by omega) (by decide) (bI_1 _) ?_
  refine g_vret dX8_join_24 rfl (Nat.le_of_ble_eq_true rfl) (Nat.le_of_ble_eq_true rfl) ?_
  refine ⟨rfl, upd (upd nr (30 * a + b) (bI on)) (30 * b + a) (bI on), ⟨rfl, fun v w hv hw => ?_⟩, rfl⟩
  show upd (upd nr (30 * a + b) (bI on)) (30 * b + a) (bI on) (30 * v + w) = bI (stA A a b on v w)
  unfold stA
  by_cases h : (v = a ∧ w = b) ∨ (v = b ∧ w = a)
  · rw [if_pos h]
    rcases h with ⟨rfl, rfl⟩ | ⟨rfl, rfl⟩
    · by_cases h2 : 30 * v + w = 30 * w + v
      · rw [h2, pk_us]
      · rw [pk_un h2, pk_us]
    · rw [pk_us]
  · rw [if_neg h, pk_un (by omega), pk_un (by omega)]
    exact hg.2 v w hv hw
theorem r_degreeOf {A : Nat → Nat → Bool} (hg : rG (nI n, nr, ot) n A) (hn : n ≤ 30) {v : Nat} (hv : v < 30) : aRet 1 0 0 mX8_degreeOf [.ref 24, .int (nI v)] (rp x (nI n, nr, ot) Q F W L T V P) (fun w g => w = some (.int (nI (dg A n v))) ∧ g = rp x (nI n, nr, ot) Q F W L T V P) := by
  refine aRet.of (by decide) (Nat.le_of_ble_eq_true rfl) (a_ok2 rfl) ?_
  refine g_iconst (v := 0) (pc1 := 1) dX8_degreeOf_0 rfl (by decide) ?_
  refine g_istore_n (i := 2) (pc1 := 2) dX8_degreeOf_1 rfl rfl (Nat.le_of_ble_eq_true rfl) ?_
  refine g_iconst (v := 0) (pc1 := 3) dX8_degreeOf_2 rfl (by decide) ?_
  refine g_istore_n (i := 3) (pc1 := 4) dX8_degreeOf_3 rfl rfl (Nat.le_of_ble_eq_true rfl) ?_
  refine down0 (P := fun i => aGo _ 4 [.ref 24, .int (nI v), .int (nI (cnt (A v) i)), .int (nI i)] [] (rp x (nI n, nr, ot) Q F W L T V P) 0 0) n ?_ ?_
  · refine g_iload_n (i := 3) (pc1 := 5) dX8_degreeOf_4 rfl rfl rfl ?_
    refine g_aload_n (i := 0) (pc1 := 6) dX8_degreeOf_5 rfl rfl rfl ?_
    refine g_get (pc1 := 9) dX8_degreeOf_6 rfl flX8_50 rfl rfl ?_
    refine g_icmp_ge (pc1 := 12) (tgt := 35) dX8_degreeOf_9 rfl (by decide) (fun _ => ?_) (fun c => absurd (Int32.le_refl _) c)
    refine g_iload_n (i := 2) (pc1 := 36) dX8_degreeOf_35 rfl rfl rfl ?_
    refine g_iret dX8_degreeOf_36 rfl rfl (Nat.le_of_ble_eq_true rfl) (Nat.le_of_ble_eq_true rfl) ?_
    exact ⟨rfl, rfl⟩
  · intro i hi ih
    refine g_iload_n (i := 3) (pc1 := 5) dX8_degreeOf_4 rfl rfl rfl ?_
    refine g_aload_n (i := 0) (pc1 := 6) dX8_degreeOf_5 rfl rfl rfl ?_
    refine g_get (pc1 := 9) dX8_degreeOf_6 rfl flX8_50 rfl rfl ?_
    refine g_icmp_ge (pc1 := 12) (tgt := 35) dX8_degreeOf_9 rfl (by decide) (fun c => absurd c (fun c => absurd ((nI_leI (a := n) (b := i) (by omega) (by omega)).mp c) (by omega))) (fun _ => ?_)
    refine g_iload_n (i := 2) (pc1 := 13) dX8_degreeOf_12 rfl rfl rfl ?_
    refine g_aload_n (i := 0) (pc1 := 14) dX8_degreeOf_13 rfl rfl rfl ?_
    refine g_iload_n (i := 1) (pc1 := 15) dX8_degreeOf_14 rfl rfl rfl ?_
    refine g_iload_n (i := 3) (pc1 := 16) dX8_degreeOf_15 rfl rfl rfl ?_
    refine g_V2 (M := mX8_isNear) (pc1 := 19) dX8_degreeOf_16 rfl lkX8_62 tmX8_isNear rfl (r_isNear x n nr ot Q F W L T V P hg (a := v) (b := i) hv (by omega)) (Nat.le_of_ble_eq_true rfl) rfl (Nat.le_of_ble_eq_true rfl) (Nat.le_of_ble_eq_true rfl) ?_
    rintro _ _ ⟨rfl, rfl⟩
    have e0 : cnt (A v) (i + 1) = cnt (A v) i + (if A v i then 1 else 0) := rfl
    show aGo _ 19 _ [.int (bI (A v i)), .int (nI (cnt (A v) i))] _ _ _
    refine g_if_eq (pc1 := 22) (tgt := 26) dX8_degreeOf_19 rfl (by decide) (fun c => ?_) (fun c => ?_)
    · rw [bI_eq0] at c
      refine g_iconst (v := 0) (pc1 := 27) dX8_degreeOf_26 rfl (by decide) ?_
      refine g_iadd (pc1 := 28) dX8_degreeOf_27 rfl ?_
      refine g_istore_n (i := 2) (pc1 := 29) dX8_degreeOf_28 rfl rfl (Nat.le_of_ble_eq_true rfl) ?_
      refine g_iinc (pc1 := 32) dX8_degreeOf_29 rfl rfl rfl ?_
      refine g_goto (tgt := 4) dX8_degreeOf_32 (by decide) ?_
      refine aGo.eq ih ?_ rfl rfl
      show [Value.ref 24, .int (nI v), .int (nI (cnt (A v) i) + 0), .int (nI i + Int32.ofInt 1)] = _
      rw [show nI i + Int32.ofInt 1 = nI (i + 1) from nI_1 i, e0, c]
      simp
    · rw [bI_ne0] at c
      refine g_iconst (v := 1) (pc1 := 23) dX8_degreeOf_22 rfl (by decide) ?_
      refine g_goto (tgt := 27) dX8_degreeOf_23 (by decide) ?_
      refine g_iadd (pc1 := 28) dX8_degreeOf_27 rfl ?_
      refine g_istore_n (i := 2) (pc1 := 29) dX8_degreeOf_28 rfl rfl (Nat.le_of_ble_eq_true rfl) ?_
      refine g_iinc (pc1 := 32) dX8_degreeOf_29 rfl rfl rfl ?_
      refine g_goto (tgt := 4) dX8_degreeOf_32 (by decide) ?_
      refine aGo.eq ih ?_ rfl rfl
      show [Value.ref 24, .int (nI v), .int (nI (cnt (A v) i) + 1), .int (nI i + Int32.ofInt 1)] = _
      rw [show nI i + Int32.ofInt 1 = nI (i + 1) from nI_1 i, e0, c, nI_1]
      rfl
theorem r_edges {A : Nat → Nat → Bool} (hg : rG (nI n, nr, ot) n A) (hn : n ≤ 30) : aRet 2 0 0 mX8_edges [.ref 24] (rp x (nI n, nr, ot) Q F W L T V P) (fun w g => w = some (.int (nI (sumN (dg A n) n / 2))) ∧ g = rp x (nI n, nr, ot) Q F W L T V P) := by
  have hs : ∀ i, i ≤ n → sumN (dg A n) i ≤ 900 := fun i hi => by
    have h1 := sumN_le (f := dg A n) (B := 30) (n := i) (fun j _ => by have := dg_le A n j; omega)
    omega
  refine aRet.of (by decide) (Nat.le_of_ble_eq_true rfl) (a_ok2 rfl) ?_
  refine g_iconst (v := 0) (pc1 := 1) dX8_edges_0 rfl (by decide) ?_
  refine g_istore_n (i := 1) (pc1 := 2) dX8_edges_1 rfl rfl (Nat.le_of_ble_eq_true rfl) ?_
  refine g_iconst (v := 0) (pc1 := 3) dX8_edges_2 rfl (by decide) ?_
  refine g_istore_n (i := 2) (pc1 := 4) dX8_edges_3 rfl rfl (Nat.le_of_ble_eq_true rfl) ?_
  refine down0 (P := fun i => aGo _ 4 [.ref 24, .int (nI (sumN (dg A n) i)), .int (nI i)] [] (rp x (nI n, nr, ot) Q F W L T V P) 0 0) n ?_ ?_
  · refine g_iload_n (i := 2) (pc1 := 5) dX8_edges_4 rfl rfl rfl ?_
    refine g_aload_n (i := 0) (pc1 := 6) dX8_edges_5 rfl rfl rfl ?_
    refine g_get (pc1 := 9) dX8_edges_6 rfl flX8_50 rfl rfl ?_
    refine g_icmp_ge (pc1 := 12) (tgt := 26) dX8_edges_9 rfl (by decide) (fun _ => ?_) (fun c => absurd (Int32.le_refl _) c)
    refine g_iload_n (i := 1) (pc1 := 27) dX8_edges_26 rfl rfl rfl ?_
    refine g_iconst (v := 2) (pc1 := 28) dX8_edges_27 rfl (by decide) ?_
    refine g_idiv (pc1 := 29) dX8_edges_28 rfl (by decide) ?_
    rw [show (2 : Int32) = nI 2 from rfl, pk_div (by have := hs n (Nat.le_refl _); omega) (by decide) (by decide)]
    refine g_iret dX8_edges_29 rfl rfl (Nat.le_of_ble_eq_true rfl) (Nat.le_of_ble_eq_true rfl) ?_
    exact ⟨rfl, rfl⟩
  · intro i hi ih
    refine g_iload_n (i := 2) (pc1 := 5) dX8_edges_4 rfl rfl rfl ?_
    refine g_aload_n (i := 0) (pc1 := 6) dX8_edges_5 rfl rfl rfl ?_
    refine g_get (pc1 := 9) dX8_edges_6 rfl flX8_50 rfl rfl ?_
    refine g_icmp_ge (pc1 := 12) (tgt := 26) dX8_edges_9 rfl (by decide) (fun c => absurd c (fun c => absurd ((nI_leI (a := n) (b := i) (by omega) (by omega)).mp c) (by omega))) (fun _ => ?_)
    refine g_iload_n (i := 1) (pc1 := 13) dX8_edges_12 rfl rfl rfl ?_
    refine g_aload_n (i := 0) (pc1 := 14) dX8_edges_13 rfl rfl rfl ?_
    refine g_iload_n (i := 2) (pc1 := 15) dX8_edges_14 rfl rfl rfl ?_
    refine g_V1 (M := mX8_degreeOf) (pc1 := 18) dX8_edges_15 rfl lkX8_70 tmX8_degreeOf rfl (r_degreeOf x n nr ot Q F W L T V P hg hn (v := i) (by omega)) (Nat.le_of_ble_eq_true rfl) rfl (Nat.le_of_ble_eq_true rfl) (Nat.le_of_ble_eq_true rfl) ?_
    rintro _ _ ⟨rfl, rfl⟩
    show aGo _ 18 _ [.int _, .int _] _ _ _
    refine g_iadd (pc1 := 19) dX8_edges_18 rfl ?_
    refine g_istore_n (i := 1) (pc1 := 20) dX8_edges_19 rfl rfl (Nat.le_of_ble_eq_true rfl) ?_
    refine g_iinc (pc1 := 23) dX8_edges_20 rfl rfl rfl ?_
    refine g_goto (tgt := 4) dX8_edges_23 (by decide) ?_
    refine aGo.eq ih ?_ rfl rfl
    show [Value.ref 24, .int (nI (sumN (dg A n) i) + nI (dg A n i)), .int (nI i + Int32.ofInt 1)] = _
    rw [nI_add, show nI i + Int32.ofInt 1 = nI (i + 1) from nI_1 i]
    rfl
end
/-- what the reference holds of the state -/
def rSol (n : Nat) (V : tM) (L : tW) : Option (tCol × tLog × tT) → Prop
  | none => V.1 = 0
  | some (b, lg, t) => V.1 = 1 ∧ bsC n V.2.1 b ∧ (∀ v c, b v = some c → c < 30) ∧ tlC V.2.2 t ∧ rL L lg
def rSt (σ : tSt) (N : tG) (L T : tW) (V : tM) (P : fI) : Prop := Gok σ.1 σ.2.1 ∧ rG N σ.1 σ.2.1 ∧ rSol σ.1 V L σ.2.2.1 ∧ rL T σ.2.2.2.1 ∧ pC P σ.2.2.2.2
def rQ (ra : Int32 × tSt) (x : Nat → aC) (v : Option Value) (g : List aC) : Prop := v = some (.int ra.1) ∧ ∃ N Q F W L T V P, rSt ra.2 N L T V P ∧ g = rp x N Q F W L T V P
theorem rQ.mk {σ : tSt} {x : Nat → aC} {N : tG} {Q : tQ} {F : tF} {W L T : tW} {V : tM} {P : fI} {y : Int32} {ra : Int32 × tSt} (e : ra = (y, σ)) (h : rSt σ N L T V P) : rQ ra x (some (.int y)) (rp x N Q F W L T V P) := by
  subst e
  exact ⟨rfl, N, Q, F, W, L, T, V, P, h, rfl⟩
section
variable (σ : tSt) (x : Nat → aC) (N : tG) (Q : tQ) (F : tF) (W L T : tW) (V : tM) (P : fI)
theorem q_graph (h : rSt σ N L T V P) (y : Int32) : aRet 2 0 0 mX8_graph [.ref 24, .int y] (rp x N Q F W L T V P) (rQ (spGraph y σ) x) := by
  have hh := h
  obtain ⟨h1, h2, h3, h4, h5⟩ := h
  obtain ⟨g1, nr, ot⟩ := N
  refine aRet.of (by decide) (Nat.le_of_ble_eq_true rfl) (a_ok2 rfl) ?_
  refine g_iload_n (i := 1) (pc1 := 1) dX8_graph_0 rfl rfl rfl ?_
  refine g_if_lt (pc1 := 4) (tgt := 10) dX8_graph_1 rfl (by decide) (fun c1 => ?_) (fun c1 => ?_)
  · refine g_iconst (v := (-1)) (pc1 := 11) dX8_graph_10 rfl (by decide) ?_
    refine g_iret dX8_graph_11 rfl rfl (Nat.le_of_ble_eq_true rfl) (Nat.le_of_ble_eq_true rfl) ?_
    exact rQ.mk (by unfold spGraph; rw [if_neg (fun q => absurd c1 (Int32.not_lt.mpr q.1))]) hh
  · refine g_iload_n (i := 1) (pc1 := 5) dX8_graph_4 rfl rfl rfl ?_
    refine g_bipush (v := 30) (pc1 := 7) dX8_graph_5 rfl (by decide) ?_
    refine g_icmp_le (pc1 := 10) (tgt := 12) dX8_graph_7 rfl (by decide) (fun c2 => ?_) (fun c2 => ?_)
    · obtain ⟨j, hj, rfl⟩ := i30.mp ⟨Int32.not_lt.mp c1, c2⟩
      refine g_aload_n (i := 0) (pc1 := 13) dX8_graph_12 rfl rfl rfl ?_
      refine g_iload_n (i := 1) (pc1 := 14) dX8_graph_13 rfl rfl rfl ?_
      refine g_puti (pc1 := 17) dX8_graph_14 rfl flX8_50 rfl (Nat.le_of_ble_eq_true rfl) rfl rfl ?_
      refine g_iconst (v := 0) (pc1 := 18) dX8_graph_17 rfl (by decide) ?_
      refine g_istore_n (i := 2) (pc1 := 19) dX8_graph_18 rfl rfl (Nat.le_of_ble_eq_true rfl) ?_
      refine aGo.eq (ls' := [.ref 24, .int (nI j), .int (nI 0)]) (h' := rp x (nI j, fil 0 0 nr, ot) Q F W L T V P) ?_ rfl rfl (by
        have : fil 0 0 nr = nr := by funext i; simp [fil]
        rw [this]; rfl)
      refine down0 (P := fun i => aGo _ 19 [.ref 24, .int (nI j), .int (nI i)] [] (rp x (nI j, fil i 0 nr, ot) Q F W L T V P) 0 0) 900 ?_ ?_
      · refine g_iload_n (i := 2) (pc1 := 20) dX8_graph_19 rfl rfl rfl ?_
        refine g_sipush (v := 900) (pc1 := 23) dX8_graph_20 rfl (by decide) ?_
        refine g_icmp_ge (pc1 := 26) (tgt := 39) dX8_graph_23 rfl (by decide) (fun _ => ?_) (fun c => absurd (by decide) c)
        refine g_aload_n (i := 0) (pc1 := 40) dX8_graph_39 rfl rfl rfl ?_
        refine g_iconst (v := 0) (pc1 := 41) dX8_graph_40 rfl (by decide) ?_
        refine g_puti (pc1 := 44) dX8_graph_41 rfl flX8_54 rfl (Nat.le_of_ble_eq_true rfl) rfl rfl ?_
        refine g_aload_n (i := 0) (pc1 := 45) dX8_graph_44 rfl rfl rfl ?_
        refine g_get (pc1 := 48) dX8_graph_45 rfl flX8_50 rfl rfl ?_
        refine g_iret dX8_graph_48 rfl rfl (Nat.le_of_ble_eq_true rfl) (Nat.le_of_ble_eq_true rfl) ?_
        refine rQ.mk (σ := (j, noE, none, σ.2.2.2)) (N := (nI j, fil 900 0 nr, ot)) (V := (0, V.2.1, V.2.2)) (by unfold spGraph; rw [if_pos ⟨Int32.not_lt.mp c1, c2⟩, nI_clamp (by omega)]) ⟨⟨hj, fun _ _ => rfl, fun _ => rfl, fun _ _ q => by cases q⟩, ⟨rfl, fun a b ha hb => ?_⟩, rfl, h4, h5⟩
        show fil 900 0 nr (30 * a + b) = 0
        unfold fil
        rw [if_pos (by omega)]
      · intro i hi ih
        refine g_iload_n (i := 2) (pc1 := 20) dX8_graph_19 rfl rfl rfl ?_
        refine g_sipush (v := 900) (pc1 := 23) dX8_graph_20 rfl (by decide) ?_
        refine g_icmp_ge (pc1 := 26) (tgt := 39) dX8_graph_23 rfl (by decide) (fun c => absurd c (fun c => absurd ((nI_leI (a := 900) (b := i) (by omega) (by omega)).mp c) (by omega))) (fun _ => ?_)
        refine g_aload_n (i := 0) (pc1 := 27) dX8_graph_26 rfl rfl rfl ?_
        refine g_get (pc1 := 30) dX8_graph_27 rfl flX8_7 rfl rfl ?_
        refine g_iload_n (i := 2) (pc1 := 31) dX8_graph_30 rfl rfl rfl ?_
        refine g_iconst (v := 0) (pc1 := 32) dX8_graph_31 rfl (by decide) ?_
        refine g_zastJ (pc1 := 33) dX8_graph_32 rfl rfl rfl hi (by decide) (by decide) ?_
        refine g_iinc (pc1 := 36) dX8_graph_33 rfl rfl rfl ?_
        refine g_goto (tgt := 19) dX8_graph_36 (by decide) ?_
        refine aGo.eq ih ?_ rfl ?_
        · show [Value.ref 24, .int (nI j), .int (nI i + Int32.ofInt 1)] = _
          rw [show nI i + Int32.ofInt 1 = nI (i + 1) from nI_1 i]
        · have e : upd (fil i 0 nr) i 0 = fil (i + 1) 0 nr := by
            funext k
            simp only [fil, upd]
            by_cases e1 : k = i
            · subst e1; simp
            · by_cases e2 : k < i
              · simp [e1, e2, show k < i + 1 by omega]
              · simp [e1, e2, show ¬ k < i + 1 by omega]
          rw [← e]
          rfl
    · refine g_iconst (v := (-1)) (pc1 := 11) dX8_graph_10 rfl (by decide) ?_
      refine g_iret dX8_graph_11 rfl rfl (Nat.le_of_ble_eq_true rfl) (Nat.le_of_ble_eq_true rfl) ?_
      exact rQ.mk (by unfold spGraph; rw [if_neg (fun q => c2 q.2)]) hh
theorem fl_st {A : Nat → Nat → Bool} {a b : Nat} {on : Bool} (hs : ∀ v w, A v w = A w v) (hab : a ≠ b) (h : ¬ A a b = on) : flA A a b = stA A a b on := by
  funext v w
  unfold flA stA
  by_cases h1 : (v = a ∧ w = b) ∨ (v = b ∧ w = a)
  · rw [if_pos h1]
    have h2 : A v w = A a b := by
      rcases h1 with ⟨rfl, rfl⟩ | ⟨rfl, rfl⟩
      · rfl
      · exact hs _ _
    rw [h2]
    have h3 : ((decide (v = a) && decide (w = b)) || (decide (v = b) && decide (w = a))) = true := by
      simp only [Bool.or_eq_true, Bool.and_eq_true, decide_eq_true_eq]; exact h1
    rw [h3]
    cases hA : A a b <;> cases on <;> simp_all
  · rw [if_neg h1]
    have h3 : ((decide (v = a) && decide (w = b)) || (decide (v = b) && decide (w = a))) = false := by
      simp only [Bool.or_eq_false_iff, Bool.and_eq_false_iff, decide_eq_false_iff_not]; omega
    rw [h3]; simp
theorem q_edge (h : rSt σ N L T V P) (a b : Int32) (on : Bool) : aRet 2 0 0 mX8_edge [.ref 24, .int a, .int b, .int (bI on)] (rp x N Q F W L T V P) (rQ (spEdge a b on σ) x) := by
  have hh := h
  obtain ⟨h1, h2, h3, h4, h5⟩ := h
  have hn := h1.1
  obtain ⟨g1, nr, ot⟩ := N
  obtain rfl : g1 = nI σ.1 := h2.1
  refine aRet.of (by decide) (Nat.le_of_ble_eq_true rfl) (a_ok2 rfl) ?_
  refine g_aload_n (i := 0) (pc1 := 1) dX8_edge_0 rfl rfl rfl ?_
  refine g_iload_n (i := 1) (pc1 := 2) dX8_edge_1 rfl rfl rfl ?_
  refine g_V1 (M := mX8_isVertex) (pc1 := 5) dX8_edge_2 rfl lkX8_58 tmX8_isVertex rfl (r_isVertex x σ.1 nr ot Q F W L T V P a) (Nat.le_of_ble_eq_true rfl) rfl (Nat.le_of_ble_eq_true rfl) (Nat.le_of_ble_eq_true rfl) ?_
  rintro _ _ ⟨rfl, rfl⟩
  refine g_if_eq (pc1 := 8) (tgt := 21) dX8_edge_5 rfl (by decide) (fun c1 => ?_) (fun c1 => ?_)
  · rw [bI_eq0] at c1
    refine g_iconst (v := (-1)) (pc1 := 22) dX8_edge_21 rfl (by decide) ?_
    refine g_iret dX8_edge_22 rfl rfl (Nat.le_of_ble_eq_true rfl) (Nat.le_of_ble_eq_true rfl) ?_
    exact rQ.mk (by unfold spEdge; rw [if_neg (fun q => by rw [c1] at q; cases q.1.1)]) hh
  · rw [bI_ne0] at c1
    refine g_aload_n (i := 0) (pc1 := 9) dX8_edge_8 rfl rfl rfl ?_
    refine g_iload_n (i := 2) (pc1 := 10) dX8_edge_9 rfl rfl rfl ?_
    refine g_V1 (M := mX8_isVertex) (pc1 := 13) dX8_edge_10 rfl lkX8_58 tmX8_isVertex rfl (r_isVertex x σ.1 nr ot Q F W L T V P b) (Nat.le_of_ble_eq_true rfl) rfl (Nat.le_of_ble_eq_true rfl) (Nat.le_of_ble_eq_true rfl) ?_
    rintro _ _ ⟨rfl, rfl⟩
    refine g_if_eq (pc1 := 16) (tgt := 21) dX8_edge_13 rfl (by decide) (fun c2 => ?_) (fun c2 => ?_)
    · rw [bI_eq0] at c2
      refine g_iconst (v := (-1)) (pc1 := 22) dX8_edge_21 rfl (by decide) ?_
      refine g_iret dX8_edge_22 rfl rfl (Nat.le_of_ble_eq_true rfl) (Nat.le_of_ble_eq_true rfl) ?_
      exact rQ.mk (by unfold spEdge; rw [if_neg (fun q => by rw [c2] at q; cases q.1.2)]) hh
    · rw [bI_ne0] at c2
      refine g_iload_n (i := 1) (pc1 := 17) dX8_edge_16 rfl rfl rfl ?_
      refine g_iload_n (i := 2) (pc1 := 18) dX8_edge_17 rfl rfl rfl ?_
      refine g_icmp_ne (pc1 := 21) (tgt := 23) dX8_edge_18 rfl (by decide) (fun c3 => ?_) (fun c3 => ?_)
      · obtain ⟨u, hu, rfl⟩ := (vtx_iff hn).mp c1
        obtain ⟨w, hw, rfl⟩ := (vtx_iff hn).mp c2
        have huw : u ≠ w := fun q => c3 (by rw [q])
        have ea : (nI u).toNatClampNeg = u := nI_clamp (by omega)
        have eb : (nI w).toNatClampNeg = w := nI_clamp (by omega)
        have hsp : spEdge (nI u) (nI w) on σ = if σ.2.1 u w = on then (0, σ) else (1, (σ.1, flA σ.2.1 u w, none, σ.2.2.2)) := by unfold spEdge; rw [if_pos ⟨⟨c1, c2⟩, c3⟩, ea, eb]
        rw [hsp]
        refine g_aload_n (i := 0) (pc1 := 24) dX8_edge_23 rfl rfl rfl ?_
        refine g_iload_n (i := 1) (pc1 := 25) dX8_edge_24 rfl rfl rfl ?_
        refine g_iload_n (i := 2) (pc1 := 26) dX8_edge_25 rfl rfl rfl ?_
        refine g_V2 (M := mX8_isNear) (pc1 := 29) dX8_edge_26 rfl lkX8_62 tmX8_isNear rfl (r_isNear x σ.1 nr ot Q F W L T V P h2 (a := u) (b := w) (by omega) (by omega)) (Nat.le_of_ble_eq_true rfl) rfl (Nat.le_of_ble_eq_true rfl) (Nat.le_of_ble_eq_true rfl) ?_
        rintro _ _ ⟨rfl, rfl⟩
        refine g_iload_n (i := 3) (pc1 := 30) dX8_edge_29 rfl rfl rfl ?_
        refine g_icmp_ne (pc1 := 33) (tgt := 35) dX8_edge_30 rfl (by decide) (fun c4 => ?_) (fun c4 => ?_)
        · have h6 : ¬ σ.2.1 u w = on := fun q => c4 (by rw [q])
          rw [if_neg h6]
          refine g_aload_n (i := 0) (pc1 := 36) dX8_edge_35 rfl rfl rfl ?_
          refine g_iload_n (i := 1) (pc1 := 37) dX8_edge_36 rfl rfl rfl ?_
          refine g_iload_n (i := 2) (pc1 := 38) dX8_edge_37 rfl rfl rfl ?_
          refine g_iload_n (i := 3) (pc1 := 39) dX8_edge_38 rfl rfl rfl ?_
          refine g_V3 (M := mX8_join) (pc1 := 42) dX8_edge_39 rfl lkX8_66 tmX8_join rfl (r_join x σ.1 nr ot Q F W L T V P h2 (a := u) (b := w) (by omega) (by omega) on) (Nat.le_of_ble_eq_true rfl) rfl (Nat.le_of_ble_eq_true rfl) (Nat.le_of_ble_eq_true rfl) ?_
          rintro _ _ ⟨rfl, nr', hnr, rfl⟩
          show aGo _ 42 _ [] _ _ _
          refine g_aload_n (i := 0) (pc1 := 43) dX8_edge_42 rfl rfl rfl ?_
          refine g_iconst (v := 0) (pc1 := 44) dX8_edge_43 rfl (by decide) ?_
          refine g_puti (pc1 := 47) dX8_edge_44 rfl flX8_54 rfl (Nat.le_of_ble_eq_true rfl) rfl rfl ?_
          refine g_iconst (v := 1) (pc1 := 48) dX8_edge_47 rfl (by decide) ?_
          refine g_iret dX8_edge_48 rfl rfl (Nat.le_of_ble_eq_true rfl) (Nat.le_of_ble_eq_true rfl) ?_
          exact rQ.mk (N := (nI σ.1, nr', ot)) (V := (0, V.2.1, V.2.2)) rfl ⟨flA_ok h1 hu hw huw, by rw [fl_st h1.2.1 huw h6]; exact hnr, rfl, h4, h5⟩
        · have h6 : σ.2.1 u w = on := bI_inj.mp c4
          rw [if_pos h6]
          refine g_iconst (v := 0) (pc1 := 34) dX8_edge_33 rfl (by decide) ?_
          refine g_iret dX8_edge_34 rfl rfl (Nat.le_of_ble_eq_true rfl) (Nat.le_of_ble_eq_true rfl) ?_
          exact rQ.mk rfl hh
      · refine g_iconst (v := (-1)) (pc1 := 22) dX8_edge_21 rfl (by decide) ?_
        refine g_iret dX8_edge_22 rfl rfl (Nat.le_of_ble_eq_true rfl) (Nat.le_of_ble_eq_true rfl) ?_
        exact rQ.mk (by unfold spEdge; rw [if_neg (fun q => q.2 c3)]) hh
theorem drQ_ref (y : Int32) : (y >>> ((16 : Int32) &&& 31)) &&& 65535 = drQ y := by
  refine b_ext fun i hi => ?_
  unfold drQ
  rw [b_and, b_65535, show (16 : Int32) = nI 16 from rfl, b_sshr 16 (by decide) y hi, b_ushr 16 (by decide)]
  by_cases h : i < 16
  · rw [if_pos (by omega)]; simp [h]
  · rw [if_neg (by omega)]; simp [h]; rw [b_big (by omega)]
theorem drP_end {n : Nat} {A : Nat → Nat → Bool} (hk : Gok n A) (seed part : Int32) : drP seed part n n 0 A = drA seed part n := by
  funext u w
  unfold drA drP
  by_cases h : dpr n n 0 u w = true
  · rw [if_pos h, if_pos h]
  · rw [if_neg h, if_neg h]
    cases hA : A u w with
    | false => rfl
    | true =>
      have h1 := hk.2.2.2 u w hA
      have h2 : u ≠ w := fun e => by rw [e, hk.2.2.1] at hA; cases hA
      exfalso
      apply h
      simp only [dpr, decide_eq_true_eq]
      omega
set_option maxHeartbeats 1000000 in
theorem q_draw (h : rSt σ N L T V P) (seed part : Int32) : aRet 3 0 0 mX8_draw [.ref 24, .int seed, .int part] (rp x N Q F W L T V P) (rQ (spDraw seed part σ) x) := by
  have hh := h
  obtain ⟨h1, h2, h3, h4, h5⟩ := h
  have hn := h1.1
  obtain ⟨g1, nr0, ot⟩ := N
  obtain rfl : g1 = nI σ.1 := h2.1
  refine aRet.of (by decide) (Nat.le_of_ble_eq_true rfl) (a_ok2 rfl) ?_
  refine g_iload_n (i := 2) (pc1 := 1) dX8_draw_0 rfl rfl rfl ?_
  refine g_if_lt (pc1 := 4) (tgt := 10) dX8_draw_1 rfl (by decide) (fun c1 => ?_) (fun c1 => ?_)
  · refine g_iconst (v := (-1)) (pc1 := 11) dX8_draw_10 rfl (by decide) ?_
    refine g_iret dX8_draw_11 rfl rfl (Nat.le_of_ble_eq_true rfl) (Nat.le_of_ble_eq_true rfl) ?_
    exact rQ.mk (by unfold spDraw; rw [if_neg (fun q => absurd c1 (Int32.not_lt.mpr q.1))]) hh
  · refine g_iload_n (i := 2) (pc1 := 5) dX8_draw_4 rfl rfl rfl ?_
    refine g_bipush (v := 100) (pc1 := 7) dX8_draw_5 rfl (by decide) ?_
    refine g_icmp_le (pc1 := 10) (tgt := 12) dX8_draw_7 rfl (by decide) (fun c2 => ?_) (fun c2 => ?_)
    · have hsp : spDraw seed part σ = (nI (sumN (dg (drA seed part σ.1) σ.1) σ.1 / 2), (σ.1, drA seed part σ.1, none, σ.2.2.2)) := by unfold spDraw; rw [if_pos ⟨Int32.not_lt.mp c1, c2⟩]
      rw [hsp]
      refine g_iload_n (i := 1) (pc1 := 13) dX8_draw_12 rfl rfl rfl ?_
      refine g_istore_n (i := 3) (pc1 := 14) dX8_draw_13 rfl rfl (Nat.le_of_ble_eq_true rfl) ?_
      refine g_iconst (v := 0) (pc1 := 15) dX8_draw_14 rfl (by decide) ?_
      refine g_istore (pc1 := 17) dX8_draw_15 rfl (Nat.le_of_ble_eq_true rfl) ?_
      have key : ∀ nr : fI, rG (nI σ.1, nr, ot) σ.1 (drP seed part σ.1 0 0 σ.2.1) → aGo (3, 0, 0, mX8_draw, none, rQ (nI (sumN (dg (drA seed part σ.1) σ.1) σ.1 / 2), (σ.1, drA seed part σ.1, none, σ.2.2.2)) x) 17 [.ref 24, .int seed, .int part, .int (drX seed σ.1 0), .int (nI 0), .null] [] (rp x (nI σ.1, nr, ot) Q F W L T V P) 0 0 := by
        refine down0 (P := fun a => ∀ nr : fI, rG (nI σ.1, nr, ot) σ.1 (drP seed part σ.1 a 0 σ.2.1) → aGo _ 17 [.ref 24, .int seed, .int part, .int (drX seed σ.1 a), .int (nI a), .null] [] (rp x (nI σ.1, nr, ot) Q F W L T V P) 0 0) σ.1 ?_ ?_
        · intro nr hC
          rw [drP_end h1] at hC
          refine g_iload (pc1 := 19) dX8_draw_17 rfl rfl ?_
          refine g_aload_n (i := 0) (pc1 := 20) dX8_draw_19 rfl rfl rfl ?_
          refine g_get (pc1 := 23) dX8_draw_20 rfl flX8_50 rfl rfl ?_
          refine g_icmp_ge (pc1 := 26) (tgt := 89) dX8_draw_23 rfl (by decide) (fun _ => ?_) (fun c => absurd (Int32.le_refl _) c)
          refine g_aload_n (i := 0) (pc1 := 90) dX8_draw_89 rfl rfl rfl ?_
          refine g_iconst (v := 0) (pc1 := 91) dX8_draw_90 rfl (by decide) ?_
          refine g_puti (pc1 := 94) dX8_draw_91 rfl flX8_54 rfl (Nat.le_of_ble_eq_true rfl) rfl rfl ?_
          refine g_aload_n (i := 0) (pc1 := 95) dX8_draw_94 rfl rfl rfl ?_
          refine aGo.eq (h' := rp x (nI σ.1, nr, ot) Q F W L T (0, V.2.1, V.2.2) P) ?_ rfl rfl rfl
          refine g_V0 (M := mX8_edges) (pc1 := 98) dX8_draw_95 rfl lkX8_76 tmX8_edges rfl (r_edges x σ.1 nr ot Q F W L T (0, V.2.1, V.2.2) P hC hn) (Nat.le_of_ble_eq_true rfl) rfl (Nat.le_of_ble_eq_true rfl) (Nat.le_of_ble_eq_true rfl) ?_
          rintro _ _ ⟨rfl, rfl⟩
          refine g_iret dX8_draw_98 rfl rfl (Nat.le_of_ble_eq_true rfl) (Nat.le_of_ble_eq_true rfl) ?_
          exact rQ.mk rfl ⟨drA_ok hn, hC, rfl, h4, h5⟩
        · intro a ha ih nr hC
          refine g_iload (pc1 := 19) dX8_draw_17 rfl rfl ?_
          refine g_aload_n (i := 0) (pc1 := 20) dX8_draw_19 rfl rfl rfl ?_
          refine g_get (pc1 := 23) dX8_draw_20 rfl flX8_50 rfl rfl ?_
          refine g_icmp_ge (pc1 := 26) (tgt := 89) dX8_draw_23 rfl (by decide) (fun c => absurd c (fun c => absurd ((nI_leI (a := σ.1) (b := a) (by omega) (by omega)).mp c) (by omega))) (fun _ => ?_)
          refine g_iload (pc1 := 28) dX8_draw_26 rfl rfl ?_
          refine g_iconst (v := 1) (pc1 := 29) dX8_draw_28 rfl (by decide) ?_
          refine g_iadd (pc1 := 30) dX8_draw_29 rfl ?_
          refine g_istore (pc1 := 32) dX8_draw_30 rfl (Nat.le_of_ble_eq_true rfl) ?_
          have key2 : ∀ nr : fI, rG (nI σ.1, nr, ot) σ.1 (drP seed part σ.1 a 0 σ.2.1) → aGo (3, 0, 0, mX8_draw, none, rQ (nI (sumN (dg (drA seed part σ.1) σ.1) σ.1 / 2), (σ.1, drA seed part σ.1, none, σ.2.2.2)) x) 32 [.ref 24, .int seed, .int part, .int (lcgN (drX seed σ.1 a) 0), .int (nI a), .int (nI (a + 1 + 0))] [] (rp x (nI σ.1, nr, ot) Q F W L T V P) 0 0 := by
            refine down0 (P := fun k => ∀ nr : fI, rG (nI σ.1, nr, ot) σ.1 (drP seed part σ.1 a k σ.2.1) → aGo _ 32 [.ref 24, .int seed, .int part, .int (lcgN (drX seed σ.1 a) k), .int (nI a), .int (nI (a + 1 + k))] [] (rp x (nI σ.1, nr, ot) Q F W L T V P) 0 0) (σ.1 - (a + 1)) ?_ ?_
            · intro nr hC
              refine g_iload (pc1 := 34) dX8_draw_32 rfl rfl ?_
              refine g_aload_n (i := 0) (pc1 := 35) dX8_draw_34 rfl rfl rfl ?_
              refine g_get (pc1 := 38) dX8_draw_35 rfl flX8_50 rfl rfl ?_
              dsimp only
              rw [show a + 1 + (σ.1 - (a + 1)) = σ.1 by omega]
              refine g_icmp_ge (pc1 := 41) (tgt := 83) dX8_draw_38 rfl (by decide) (fun _ => ?_) (fun c => absurd (Int32.le_refl _) c)
              refine g_iinc (pc1 := 86) dX8_draw_83 rfl rfl rfl ?_
              refine g_goto (tgt := 17) dX8_draw_86 (by decide) ?_
              refine aGo.forget 5 ?_
              refine aGo.eq (ih nr (by rw [← drP_row seed part ha]; exact hC)) ?_ rfl rfl
              show [Value.ref 24, .int seed, .int part, .int (lcgN (drX seed σ.1 a) (σ.1 - (a + 1))), .int (nI a + Int32.ofInt 1), .null] = _
              rw [show nI a + Int32.ofInt 1 = nI (a + 1) from nI_1 a]
              rfl
            · intro k hk ih2 nr hC
              refine g_iload (pc1 := 34) dX8_draw_32 rfl rfl ?_
              refine g_aload_n (i := 0) (pc1 := 35) dX8_draw_34 rfl rfl rfl ?_
              refine g_get (pc1 := 38) dX8_draw_35 rfl flX8_50 rfl rfl ?_
              refine g_icmp_ge (pc1 := 41) (tgt := 83) dX8_draw_38 rfl (by decide) (fun c => absurd c (fun c => absurd ((nI_leI (a := σ.1) (b := a + 1 + k) (by omega) (by omega)).mp c) (by omega))) (fun _ => ?_)
              refine g_ldc (pc1 := 43) dX8_draw_41 rfl ctX8_74 ?_
              refine g_iload_n (i := 3) (pc1 := 44) dX8_draw_43 rfl rfl rfl ?_
              refine g_imul (pc1 := 45) dX8_draw_44 rfl ?_
              refine g_sipush (v := 12345) (pc1 := 48) dX8_draw_45 rfl (by decide) ?_
              refine g_iadd (pc1 := 49) dX8_draw_48 rfl ?_
              refine g_istore_n (i := 3) (pc1 := 50) dX8_draw_49 rfl rfl (Nat.le_of_ble_eq_true rfl) ?_
              refine g_aload_n (i := 0) (pc1 := 51) dX8_draw_50 rfl rfl rfl ?_
              refine g_iload (pc1 := 53) dX8_draw_51 rfl rfl ?_
              refine g_iload (pc1 := 55) dX8_draw_53 rfl rfl ?_
              refine g_iload_n (i := 3) (pc1 := 56) dX8_draw_55 rfl rfl rfl ?_
              refine g_bipush (v := 16) (pc1 := 58) dX8_draw_56 rfl (by decide) ?_
              refine g_ishr (pc1 := 59) dX8_draw_58 rfl ?_
              refine g_ldc (pc1 := 61) dX8_draw_59 rfl ctX8_75 ?_
              refine g_iand (pc1 := 62) dX8_draw_61 rfl ?_
              rw [drQ_ref]
              refine g_bipush (v := 100) (pc1 := 64) dX8_draw_62 rfl (by decide) ?_
              refine g_irem (pc1 := 65) dX8_draw_64 rfl (by decide) ?_
              refine g_iload_n (i := 2) (pc1 := 66) dX8_draw_65 rfl rfl rfl ?_
              have fin : ∀ y : Bool, y = drY part (lcgN (drX seed σ.1 a) (k + 1)) → aGo (3, 0, 0, mX8_draw, none, rQ (nI (sumN (dg (drA seed part σ.1) σ.1) σ.1 / 2), (σ.1, drA seed part σ.1, none, σ.2.2.2)) x) 74 [.ref 24, .int seed, .int part, .int (lcg (lcgN (drX seed σ.1 a) k)), .int (nI a), .int (nI (a + 1 + k))] [.int (bI y), .int (nI (a + 1 + k)), .int (nI a), .ref 24] (rp x (nI σ.1, nr, ot) Q F W L T V P) 0 0 := by
                intro y hy
                refine g_V3 (M := mX8_join) (pc1 := 77) dX8_draw_74 rfl lkX8_66 tmX8_join rfl (r_join x σ.1 nr ot Q F W L T V P hC (a := a) (b := a + 1 + k) (by omega) (by omega) y) (Nat.le_of_ble_eq_true rfl) rfl (Nat.le_of_ble_eq_true rfl) (Nat.le_of_ble_eq_true rfl) ?_
                rintro _ _ ⟨rfl, nr', hC', rfl⟩
                show aGo _ 77 _ [] _ _ _
                refine g_iinc (pc1 := 80) dX8_draw_77 rfl rfl rfl ?_
                refine g_goto (tgt := 32) dX8_draw_80 (by decide) ?_
                refine aGo.eq (ih2 nr' ?_) ?_ rfl rfl
                · have e : stA (drP seed part σ.1 a k σ.2.1) a (a + 1 + k) y = drP seed part σ.1 a (k + 1) σ.2.1 := by
                    funext u w
                    rw [drP_succ seed part (by omega), ← hy]
                    rfl
                  rw [← e]; exact hC'
                · show [Value.ref 24, .int seed, .int part, .int (lcg (lcgN (drX seed σ.1 a) k)), .int (nI a), .int (nI (a + 1 + k) + Int32.ofInt 1)] = _
                  rw [show nI (a + 1 + k) + Int32.ofInt 1 = nI (a + 1 + (k + 1)) from nI_1 _]
                  rfl
              refine g_icmp_ge (pc1 := 69) (tgt := 73) dX8_draw_66 rfl (by decide) (fun c => ?_) (fun c => ?_)
              · refine g_iconst (v := 0) (pc1 := 74) dX8_draw_73 rfl (by decide) ?_
                exact fin false (decide_eq_false (Int32.not_lt.mpr c)).symm
              · refine g_iconst (v := 1) (pc1 := 70) dX8_draw_69 rfl (by decide) ?_
                refine g_goto (tgt := 74) dX8_draw_70 (by decide) ?_
                exact fin true (decide_eq_true (Int32.not_le.mp c)).symm
          refine aGo.eq (key2 nr hC) ?_ rfl rfl
          show [Value.ref 24, .int seed, .int part, .int (drX seed σ.1 a), .int (nI a), .int (nI a + 1)] = _
          rw [show nI a + 1 = nI (a + 1 + 0) from nI_1 a]
          rfl
      exact key nr0 (by rw [drP_0]; exact h2)
    · refine g_iconst (v := (-1)) (pc1 := 11) dX8_draw_10 rfl (by decide) ?_
      refine g_iret dX8_draw_11 rfl rfl (Nat.le_of_ble_eq_true rfl) (Nat.le_of_ble_eq_true rfl) ?_
      exact rQ.mk (by unfold spDraw; rw [if_neg (fun q => c2 q.2)]) hh
theorem q_has (h : rSt σ N L T V P) (a b : Int32) : aRet 2 0 0 mX8_has [.ref 24, .int a, .int b] (rp x N Q F W L T V P) (rQ (spHas a b σ) x) := by
  have hh := h
  obtain ⟨h1, h2, h3, h4, h5⟩ := h
  have hn := h1.1
  obtain ⟨g1, nr, ot⟩ := N
  obtain rfl : g1 = nI σ.1 := h2.1
  refine aRet.of (by decide) (Nat.le_of_ble_eq_true rfl) (a_ok2 rfl) ?_
  refine g_aload_n (i := 0) (pc1 := 1) dX8_has_0 rfl rfl rfl ?_
  refine g_iload_n (i := 1) (pc1 := 2) dX8_has_1 rfl rfl rfl ?_
  refine g_V1 (M := mX8_isVertex) (pc1 := 5) dX8_has_2 rfl lkX8_58 tmX8_isVertex rfl (r_isVertex x σ.1 nr ot Q F W L T V P a) (Nat.le_of_ble_eq_true rfl) rfl (Nat.le_of_ble_eq_true rfl) (Nat.le_of_ble_eq_true rfl) ?_
  rintro _ _ ⟨rfl, rfl⟩
  refine g_if_eq (pc1 := 8) (tgt := 29) dX8_has_5 rfl (by decide) (fun c1 => ?_) (fun c1 => ?_)
  · rw [bI_eq0] at c1
    refine g_iconst (v := 0) (pc1 := 30) dX8_has_29 rfl (by decide) ?_
    refine g_iret dX8_has_30 rfl (bI_nar false) (Nat.le_of_ble_eq_true rfl) (Nat.le_of_ble_eq_true rfl) ?_
    exact rQ.mk (by unfold spHas; rw [c1]; rfl) hh
  · rw [bI_ne0] at c1
    refine g_aload_n (i := 0) (pc1 := 9) dX8_has_8 rfl rfl rfl ?_
    refine g_iload_n (i := 2) (pc1 := 10) dX8_has_9 rfl rfl rfl ?_
    refine g_V1 (M := mX8_isVertex) (pc1 := 13) dX8_has_10 rfl lkX8_58 tmX8_isVertex rfl (r_isVertex x σ.1 nr ot Q F W L T V P b) (Nat.le_of_ble_eq_true rfl) rfl (Nat.le_of_ble_eq_true rfl) (Nat.le_of_ble_eq_true rfl) ?_
    rintro _ _ ⟨rfl, rfl⟩
    refine g_if_eq (pc1 := 16) (tgt := 29) dX8_has_13 rfl (by decide) (fun c2 => ?_) (fun c2 => ?_)
    · rw [bI_eq0] at c2
      refine g_iconst (v := 0) (pc1 := 30) dX8_has_29 rfl (by decide) ?_
      refine g_iret dX8_has_30 rfl (bI_nar false) (Nat.le_of_ble_eq_true rfl) (Nat.le_of_ble_eq_true rfl) ?_
      exact rQ.mk (by unfold spHas; rw [c2]; simp; rfl) hh
    · rw [bI_ne0] at c2
      obtain ⟨u, hu, rfl⟩ := (vtx_iff hn).mp c1
      obtain ⟨w, hw, rfl⟩ := (vtx_iff hn).mp c2
      have hsp : spHas (nI u) (nI w) σ = (bI (σ.2.1 u w), σ) := by unfold spHas; rw [c1, c2, nI_clamp (by omega), nI_clamp (by omega)]; rfl
      refine g_aload_n (i := 0) (pc1 := 17) dX8_has_16 rfl rfl rfl ?_
      refine g_iload_n (i := 1) (pc1 := 18) dX8_has_17 rfl rfl rfl ?_
      refine g_iload_n (i := 2) (pc1 := 19) dX8_has_18 rfl rfl rfl ?_
      refine g_V2 (M := mX8_isNear) (pc1 := 22) dX8_has_19 rfl lkX8_62 tmX8_isNear rfl (r_isNear x σ.1 nr ot Q F W L T V P h2 (a := u) (b := w) (by omega) (by omega)) (Nat.le_of_ble_eq_true rfl) rfl (Nat.le_of_ble_eq_true rfl) (Nat.le_of_ble_eq_true rfl) ?_
      rintro _ _ ⟨rfl, rfl⟩
      refine g_if_eq (pc1 := 25) (tgt := 29) dX8_has_22 rfl (by decide) (fun c3 => ?_) (fun c3 => ?_)
      · rw [bI_eq0] at c3
        refine g_iconst (v := 0) (pc1 := 30) dX8_has_29 rfl (by decide) ?_
        refine g_iret dX8_has_30 rfl (bI_nar false) (Nat.le_of_ble_eq_true rfl) (Nat.le_of_ble_eq_true rfl) ?_
        exact rQ.mk (by rw [hsp, c3]; rfl) hh
      · rw [bI_ne0] at c3
        refine g_iconst (v := 1) (pc1 := 26) dX8_has_25 rfl (by decide) ?_
        refine g_goto (tgt := 30) dX8_has_26 (by decide) ?_
        refine g_iret dX8_has_30 rfl (bI_nar true) (Nat.le_of_ble_eq_true rfl) (Nat.le_of_ble_eq_true rfl) ?_
        exact rQ.mk (by rw [hsp, c3]; rfl) hh
theorem q_degree (h : rSt σ N L T V P) (v : Int32) : aRet 2 0 0 mX8_degree [.ref 24, .int v] (rp x N Q F W L T V P) (rQ (spDegree v σ) x) := by
  have hh := h
  obtain ⟨h1, h2, h3, h4, h5⟩ := h
  have hn := h1.1
  obtain ⟨g1, nr, ot⟩ := N
  obtain rfl : g1 = nI σ.1 := h2.1
  refine aRet.of (by decide) (Nat.le_of_ble_eq_true rfl) (a_ok2 rfl) ?_
  refine g_aload_n (i := 0) (pc1 := 1) dX8_degree_0 rfl rfl rfl ?_
  refine g_iload_n (i := 1) (pc1 := 2) dX8_degree_1 rfl rfl rfl ?_
  refine g_V1 (M := mX8_isVertex) (pc1 := 5) dX8_degree_2 rfl lkX8_58 tmX8_isVertex rfl (r_isVertex x σ.1 nr ot Q F W L T V P v) (Nat.le_of_ble_eq_true rfl) rfl (Nat.le_of_ble_eq_true rfl) (Nat.le_of_ble_eq_true rfl) ?_
  rintro _ _ ⟨rfl, rfl⟩
  refine g_if_eq (pc1 := 8) (tgt := 16) dX8_degree_5 rfl (by decide) (fun c1 => ?_) (fun c1 => ?_)
  · rw [bI_eq0] at c1
    refine g_iconst (v := (-1)) (pc1 := 17) dX8_degree_16 rfl (by decide) ?_
    refine g_iret dX8_degree_17 rfl rfl (Nat.le_of_ble_eq_true rfl) (Nat.le_of_ble_eq_true rfl) ?_
    exact rQ.mk (by unfold spDegree; rw [c1]; rfl) hh
  · rw [bI_ne0] at c1
    obtain ⟨u, hu, rfl⟩ := (vtx_iff hn).mp c1
    refine g_aload_n (i := 0) (pc1 := 9) dX8_degree_8 rfl rfl rfl ?_
    refine g_iload_n (i := 1) (pc1 := 10) dX8_degree_9 rfl rfl rfl ?_
    refine g_V1 (M := mX8_degreeOf) (pc1 := 13) dX8_degree_10 rfl lkX8_70 tmX8_degreeOf rfl (r_degreeOf x σ.1 nr ot Q F W L T V P h2 hn (v := u) (by omega)) (Nat.le_of_ble_eq_true rfl) rfl (Nat.le_of_ble_eq_true rfl) (Nat.le_of_ble_eq_true rfl) ?_
    rintro _ _ ⟨rfl, rfl⟩
    refine g_goto (tgt := 17) dX8_degree_13 (by decide) ?_
    refine g_iret dX8_degree_17 rfl rfl (Nat.le_of_ble_eq_true rfl) (Nat.le_of_ble_eq_true rfl) ?_
    exact rQ.mk (by unfold spDegree; rw [if_pos c1, nI_clamp (by omega)]) hh
end
