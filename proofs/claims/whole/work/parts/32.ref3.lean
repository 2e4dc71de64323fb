/-! ===== the reference: colourings ===== -/
def stf (o : Option Nat) : Nat := match o with
  | none => 0
  | some c => c + 1
def stN (col : tCol) (n : Nat) : Nat := maxN (fun v => stf (col v)) n
theorem enO_1 (o : Option Nat) : enO o + 1 = nI (stf o) := by
  cases o with
  | none => rfl
  | some c => exact nI_1 c
theorem maxN_ge {f : Nat → Nat} : ∀ {n i : Nat}, i < n → f i ≤ maxN f n
  | 0, i, h => absurd h (Nat.not_lt_zero i)
  | n + 1, i, h => by
    unfold maxN
    by_cases hi : i = n
    · subst hi; split <;> omega
    · have := maxN_ge (f := f) (n := n) (i := i) (by omega)
      split <;> omega
theorem stN_u {n u : Nat} {col : tCol} (h : Cok n col u) : stN col n = u := by
  have h1 : stN col n ≤ u := maxN_le fun v _ => by
    cases hc : col v with
    | none => exact Nat.zero_le _
    | some c => exact (h.2.1 c).mpr ⟨v, hc⟩
  rcases Nat.lt_or_ge (stN col n) u with g | g
  · have hu : u - 1 < u := by omega
    obtain ⟨v, hv⟩ := (h.2.1 (u - 1)).mp hu
    have h2 := maxN_ge (f := fun v => stf (col v)) (n := n) (i := v) (h.1 v _ hv).1
    have h3 : stf (col v) = u := by rw [hv]; show u - 1 + 1 = u; omega
    show maxN _ n = u
    unfold stN at g
    omega
  · omega
/-- all colours are below 30 -/
def c30 (col : tCol) : Prop := ∀ v c, col v = some c → c < 30
theorem enO_neg {o : Option Nat} (h : ∀ c, o = some c → c < 30) : enO o < 0 ↔ o = none := by
  cases o with
  | none => exact ⟨fun _ => rfl, fun _ => by decide⟩
  | some c =>
    have := h c rfl
    constructor
    · intro q; exact absurd q (nI_pos (n := c) (by omega))
    · intro q; cases q
theorem enO_c {o : Option Nat} (h : ∀ c, o = some c → c < 30) {c : Nat} (hc : c < 2 ^ 31) : enO o = nI c ↔ o = some c := by
  cases o with
  | none =>
    constructor
    · intro e
      exact absurd (show nI c ≤ -1 by rw [← e]; exact Int32.le_refl _) (nI_m1_lt hc)
    · intro e; cases e
  | some d =>
    have := h d rfl
    show nI d = nI c ↔ _
    rw [nI_eq (by omega) hc]
    simp
theorem enL_neg {n w : Nat} (hn : n ≤ 30) (hw : w ≤ n) : enL n w < 0 ↔ ¬ w < n := by
  unfold enL
  by_cases h : w < n
  · rw [if_pos h]
    exact ⟨fun q => absurd q (nI_pos (by omega)), fun q => absurd h q⟩
  · rw [if_neg h]
    exact ⟨fun _ => h, fun _ => by decide⟩
section
variable (x : Nat → aC) (n : Nat) (nr ot : fI) (cf sf : fI) (F : tF) (W L T : tW) (V : tM) (P : fI)
theorem r_clearColours (N : tG) : aRet 0 0 0 mX8_clearColours [.ref 24] (rp x N (cf, sf) F W L T V P) (fun w g => w = none ∧ g = rp x N (fil 30 (-1) cf, sf) F W L T V P) := by
  refine aRet.of (by decide) (Nat.le_of_ble_eq_true rfl) (a_ok2 rfl) ?_
  refine g_iconst (v := 0) (pc1 := 1) dX8_clearColours_0 rfl (by decide) ?_
  refine g_istore_n (i := 1) (pc1 := 2) dX8_clearColours_1 rfl rfl (Nat.le_of_ble_eq_true rfl) ?_
  refine aGo.eq (ls' := [.ref 24, .int (nI 0)]) (h' := rp x N (fil 0 (-1) cf, sf) F W L T V P) ?_ rfl rfl (by
    have : fil 0 (-1) cf = cf := by funext i; simp [fil]
    rw [this])
  refine down0 (P := fun i => aGo _ 2 [.ref 24, .int (nI i)] [] (rp x N (fil i (-1) cf, sf) F W L T V P) 0 0) 30 ?_ ?_
  · refine g_iload_n (i := 1) (pc1 := 3) dX8_clearColours_2 rfl rfl rfl ?_
    refine g_bipush (v := 30) (pc1 := 5) dX8_clearColours_3 rfl (by decide) ?_
    refine g_icmp_ge (pc1 := 8) (tgt := 21) dX8_clearColours_5 rfl (by decide) (fun _ => ?_) (fun c => absurd (by decide) c)
    refine g_vret dX8_clearColours_21 rfl (Nat.le_of_ble_eq_true rfl) (Nat.le_of_ble_eq_true rfl) ?_
    exact ⟨rfl, rfl⟩
  · intro i hi ih
    refine g_iload_n (i := 1) (pc1 := 3) dX8_clearColours_2 rfl rfl rfl ?_
    refine g_bipush (v := 30) (pc1 := 5) dX8_clearColours_3 rfl (by decide) ?_
    refine g_icmp_ge (pc1 := 8) (tgt := 21) dX8_clearColours_5 rfl (by decide) (fun c => absurd c (fun c => absurd ((nI_leI (a := 30) (b := i) (by omega) (by omega)).mp c) (by omega))) (fun _ => ?_)
    refine g_aload_n (i := 0) (pc1 := 9) dX8_clearColours_8 rfl rfl rfl ?_
    refine g_get (pc1 := 12) dX8_clearColours_9 rfl flX8_16 rfl rfl ?_
    refine g_iload_n (i := 1) (pc1 := 13) dX8_clearColours_12 rfl rfl rfl ?_
    refine g_iconst (v := (-1)) (pc1 := 14) dX8_clearColours_13 rfl (by decide) ?_
    refine g_iastJ (pc1 := 15) dX8_clearColours_14 rfl rfl rfl hi (by decide) ?_
    refine g_iinc (pc1 := 18) dX8_clearColours_15 rfl rfl rfl ?_
    refine g_goto (tgt := 2) dX8_clearColours_18 (by decide) ?_
    refine aGo.eq ih ?_ rfl ?_
    · show [Value.ref 24, .int (nI i + Int32.ofInt 1)] = _
      rw [show nI i + Int32.ofInt 1 = nI (i + 1) from nI_1 i]
    · have e : upd (fil i (-1) cf) i (-1) = fil (i + 1) (-1) cf := by
        funext k
        simp only [fil, upd]
        by_cases e1 : k = i
        · subst e1; simp
        · by_cases e2 : k < i
          · simp [e1, e2, show k < i + 1 by omega]
          · simp [e1, e2, show ¬ k < i + 1 by omega]
      rw [← e]
      rfl
theorem r_clearSeen (N : tG) : aRet 0 0 0 mX8_clearSeen [.ref 24] (rp x N (cf, sf) F W L T V P) (fun w g => w = none ∧ g = rp x N (cf, fil 30 0 sf) F W L T V P) := by
  refine aRet.of (by decide) (Nat.le_of_ble_eq_true rfl) (a_ok2 rfl) ?_
  refine g_iconst (v := 0) (pc1 := 1) dX8_clearSeen_0 rfl (by decide) ?_
  refine g_istore_n (i := 1) (pc1 := 2) dX8_clearSeen_1 rfl rfl (Nat.le_of_ble_eq_true rfl) ?_
  refine aGo.eq (ls' := [.ref 24, .int (nI 0)]) (h' := rp x N (cf, fil 0 0 sf) F W L T V P) ?_ rfl rfl (by
    have : fil 0 0 sf = sf := by funext i; simp [fil]
    rw [this])
  refine down0 (P := fun i => aGo _ 2 [.ref 24, .int (nI i)] [] (rp x N (cf, fil i 0 sf) F W L T V P) 0 0) 30 ?_ ?_
  · refine g_iload_n (i := 1) (pc1 := 3) dX8_clearSeen_2 rfl rfl rfl ?_
    refine g_bipush (v := 30) (pc1 := 5) dX8_clearSeen_3 rfl (by decide) ?_
    refine g_icmp_ge (pc1 := 8) (tgt := 21) dX8_clearSeen_5 rfl (by decide) (fun _ => ?_) (fun c => absurd (by decide) c)
    refine g_vret dX8_clearSeen_21 rfl (Nat.le_of_ble_eq_true rfl) (Nat.le_of_ble_eq_true rfl) ?_
    exact ⟨rfl, rfl⟩
  · intro i hi ih
    refine g_iload_n (i := 1) (pc1 := 3) dX8_clearSeen_2 rfl rfl rfl ?_
    refine g_bipush (v := 30) (pc1 := 5) dX8_clearSeen_3 rfl (by decide) ?_
    refine g_icmp_ge (pc1 := 8) (tgt := 21) dX8_clearSeen_5 rfl (by decide) (fun c => absurd c (fun c => absurd ((nI_leI (a := 30) (b := i) (by omega) (by omega)).mp c) (by omega))) (fun _ => ?_)
    refine g_aload_n (i := 0) (pc1 := 9) dX8_clearSeen_8 rfl rfl rfl ?_
    refine g_get (pc1 := 12) dX8_clearSeen_9 rfl flX8_47 rfl rfl ?_
    refine g_iload_n (i := 1) (pc1 := 13) dX8_clearSeen_12 rfl rfl rfl ?_
    refine g_iconst (v := 0) (pc1 := 14) dX8_clearSeen_13 rfl (by decide) ?_
    refine g_zastJ (pc1 := 15) dX8_clearSeen_14 rfl rfl rfl hi (by decide) (by decide) ?_
    refine g_iinc (pc1 := 18) dX8_clearSeen_15 rfl rfl rfl ?_
    refine g_goto (tgt := 2) dX8_clearSeen_18 (by decide) ?_
    refine aGo.eq ih ?_ rfl ?_
    · show [Value.ref 24, .int (nI i + Int32.ofInt 1)] = _
      rw [show nI i + Int32.ofInt 1 = nI (i + 1) from nI_1 i]
    · have e : upd (fil i 0 sf) i 0 = fil (i + 1) 0 sf := by
        funext k
        simp only [fil, upd]
        by_cases e1 : k = i
        · subst e1; simp
        · by_cases e2 : k < i
          · simp [e1, e2, show k < i + 1 by omega]
          · simp [e1, e2, show ¬ k < i + 1 by omega]
      rw [← e]
      rfl
theorem r_neighbourWith {A : Nat → Nat → Bool} (hg : rG (nI n, nr, ot) n A) (hn : n ≤ 30) {col : tCol} (hc : rK cf col) (h30 : c30 col) {v c : Nat} (hv : v < 30) (hc2 : c < 1000) : aRet 1 0 0 mX8_neighbourWith [.ref 24, .int (nI v), .int (nI c)] (rp x (nI n, nr, ot) (cf, sf) F W L T V P) (fun w g => w = some (.int (enL n (nbW n A col v c))) ∧ g = rp x (nI n, nr, ot) (cf, sf) F W L T V P) := by
  refine aRet.of (by decide) (Nat.le_of_ble_eq_true rfl) (a_ok2 rfl) ?_
  refine g_iconst (v := 0) (pc1 := 1) dX8_neighbourWith_0 rfl (by decide) ?_
  refine g_istore_n (i := 3) (pc1 := 2) dX8_neighbourWith_1 rfl rfl (Nat.le_of_ble_eq_true rfl) ?_
  have fin : ∀ i, i ≤ n → nbW n A col v c = i → aGo (1, 0, 0, mX8_neighbourWith, none, fun w g => w = some (.int (enL n (nbW n A col v c))) ∧ g = rp x (nI n, nr, ot) (cf, sf) F W L T V P) 35 [.ref 24, .int (nI v), .int (nI c), .int (nI i)] [] (rp x (nI n, nr, ot) (cf, sf) F W L T V P) 0 0 := by
    intro i hi he
    refine g_iload_n (i := 3) (pc1 := 36) dX8_neighbourWith_35 rfl rfl rfl ?_
    refine g_aload_n (i := 0) (pc1 := 37) dX8_neighbourWith_36 rfl rfl rfl ?_
    refine g_get (pc1 := 40) dX8_neighbourWith_37 rfl flX8_50 rfl rfl ?_
    refine g_icmp_ge (pc1 := 43) (tgt := 47) dX8_neighbourWith_40 rfl (by decide) (fun c9 => ?_) (fun c9 => ?_)
    · have := (nI_leI (a := n) (b := i) (by omega) (by omega)).mp c9
      refine g_iconst (v := (-1)) (pc1 := 48) dX8_neighbourWith_47 rfl (by decide) ?_
      refine g_iret dX8_neighbourWith_48 rfl rfl (Nat.le_of_ble_eq_true rfl) (Nat.le_of_ble_eq_true rfl) ?_
      exact ⟨by unfold enL; rw [he, if_neg (by omega)], rfl⟩
    · have : ¬ n ≤ i := fun q => c9 ((nI_leI (a := n) (b := i) (by omega) (by omega)).mpr q)
      refine g_iload_n (i := 3) (pc1 := 44) dX8_neighbourWith_43 rfl rfl rfl ?_
      refine g_goto (tgt := 48) dX8_neighbourWith_44 (by decide) ?_
      refine g_iret dX8_neighbourWith_48 rfl rfl (Nat.le_of_ble_eq_true rfl) (Nat.le_of_ble_eq_true rfl) ?_
      exact ⟨by unfold enL; rw [he, if_pos (by omega)], rfl⟩
  have key : ∀ i, i ≤ n → (∀ j, j < i → (A v j && decide (col j = some c)) = false) → aGo (1, 0, 0, mX8_neighbourWith, none, fun w g => w = some (.int (enL n (nbW n A col v c))) ∧ g = rp x (nI n, nr, ot) (cf, sf) F W L T V P) 2 [.ref 24, .int (nI v), .int (nI c), .int (nI i)] [] (rp x (nI n, nr, ot) (cf, sf) F W L T V P) 0 0 := by
    refine down (P := fun i => (∀ j, j < i → (A v j && decide (col j = some c)) = false) → aGo _ 2 [.ref 24, .int (nI v), .int (nI c), .int (nI i)] [] (rp x (nI n, nr, ot) (cf, sf) F W L T V P) 0 0) ?_ ?_
    · intro hno
      refine g_iload_n (i := 3) (pc1 := 3) dX8_neighbourWith_2 rfl rfl rfl ?_
      refine g_aload_n (i := 0) (pc1 := 4) dX8_neighbourWith_3 rfl rfl rfl ?_
      refine g_get (pc1 := 7) dX8_neighbourWith_4 rfl flX8_50 rfl rfl ?_
      refine g_icmp_ge (pc1 := 10) (tgt := 35) dX8_neighbourWith_7 rfl (by decide) (fun _ => ?_) (fun c => absurd (Int32.le_refl _) c)
      exact fin n (Nat.le_refl _) (lst_none hno)
    · intro i hi ih hno
      have nx : (A v i && decide (col i = some c)) = false → aGo (1, 0, 0, mX8_neighbourWith, none, fun w g => w = some (.int (enL n (nbW n A col v c))) ∧ g = rp x (nI n, nr, ot) (cf, sf) F W L T V P) 29 [.ref 24, .int (nI v), .int (nI c), .int (nI i)] [] (rp x (nI n, nr, ot) (cf, sf) F W L T V P) 0 0 := by
        intro h0
        refine g_iinc (pc1 := 32) dX8_neighbourWith_29 rfl rfl rfl ?_
        refine g_goto (tgt := 2) dX8_neighbourWith_32 (by decide) ?_
        refine aGo.eq (ih fun j hj => ?_) ?_ rfl rfl
        · by_cases hji : j = i
          · subst hji; exact h0
          · exact hno j (by omega)
        · show [Value.ref 24, .int (nI v), .int (nI c), .int (nI i + Int32.ofInt 1)] = _
          rw [show nI i + Int32.ofInt 1 = nI (i + 1) from nI_1 i]
      refine g_iload_n (i := 3) (pc1 := 3) dX8_neighbourWith_2 rfl rfl rfl ?_
      refine g_aload_n (i := 0) (pc1 := 4) dX8_neighbourWith_3 rfl rfl rfl ?_
      refine g_get (pc1 := 7) dX8_neighbourWith_4 rfl flX8_50 rfl rfl ?_
      refine g_icmp_ge (pc1 := 10) (tgt := 35) dX8_neighbourWith_7 rfl (by decide) (fun c => absurd c (fun c => absurd ((nI_leI (a := n) (b := i) (by omega) (by omega)).mp c) (by omega))) (fun _ => ?_)
      refine g_aload_n (i := 0) (pc1 := 11) dX8_neighbourWith_10 rfl rfl rfl ?_
      refine g_iload_n (i := 1) (pc1 := 12) dX8_neighbourWith_11 rfl rfl rfl ?_
      refine g_iload_n (i := 3) (pc1 := 13) dX8_neighbourWith_12 rfl rfl rfl ?_
      refine g_V2 (M := mX8_isNear) (pc1 := 16) dX8_neighbourWith_13 rfl lkX8_62 tmX8_isNear rfl (r_isNear x n nr ot (cf, sf) F W L T V P hg (a := v) (b := i) hv (by omega)) (Nat.le_of_ble_eq_true rfl) rfl (Nat.le_of_ble_eq_true rfl) (Nat.le_of_ble_eq_true rfl) ?_
      rintro _ _ ⟨rfl, rfl⟩
      refine g_if_eq (pc1 := 19) (tgt := 29) dX8_neighbourWith_16 rfl (by decide) (fun c1 => ?_) (fun c1 => ?_)
      · rw [bI_eq0] at c1
        exact nx (by rw [c1]; rfl)
      · rw [bI_ne0] at c1
        refine g_aload_n (i := 0) (pc1 := 20) dX8_neighbourWith_19 rfl rfl rfl ?_
        refine g_get (pc1 := 23) dX8_neighbourWith_20 rfl flX8_16 rfl rfl ?_
        refine g_iload_n (i := 3) (pc1 := 24) dX8_neighbourWith_23 rfl rfl rfl ?_
        refine g_ialdJ (pc1 := 25) dX8_neighbourWith_24 rfl rfl rfl (by omega) (by decide) ?_
        refine g_iload_n (i := 2) (pc1 := 26) dX8_neighbourWith_25 rfl rfl rfl ?_
        rw [show (cf, sf).1 i = enO (col i) from hc i (by omega)]
        have hiff := enO_c (h30 i) (c := c) (by omega)
        refine g_icmp_eq (pc1 := 29) (tgt := 35) dX8_neighbourWith_26 rfl (by decide) (fun c2 => ?_) (fun c2 => ?_)
        · have := hiff.mp c2
          exact fin i (by omega) (lst_eq hno hi (by rw [c1, this]; simp))
        · exact nx (by rw [decide_eq_false (fun q => c2 (hiff.mpr q))]; simp)
  exact key 0 (Nat.zero_le _) (fun j hj => absurd hj (Nat.not_lt_zero j))
theorem nbW_hC {n : Nat} {A : Nat → Nat → Bool} {col : tCol} {v c : Nat} : nbW n A col v c < n ↔ hC n A col v c = true := lst_lt
theorem nbW_le (n : Nat) (A : Nat → Nat → Bool) (col : tCol) (v c : Nat) : nbW n A col v c ≤ n := lst_le _ _
theorem r_saturationOf {A : Nat → Nat → Bool} (hg : rG (nI n, nr, ot) n A) (hn : n ≤ 30) {col : tCol} (hc : rK cf col) (h30 : c30 col) {v : Nat} (hv : v < 30) : aRet 2 0 0 mX8_saturationOf [.ref 24, .int (nI v)] (rp x (nI n, nr, ot) (cf, sf) F W L T V P) (fun w g => w = some (.int (nI (sat n A col v))) ∧ g = rp x (nI n, nr, ot) (cf, sf) F W L T V P) := by
  refine aRet.of (by decide) (Nat.le_of_ble_eq_true rfl) (a_ok2 rfl) ?_
  refine g_iconst (v := 0) (pc1 := 1) dX8_saturationOf_0 rfl (by decide) ?_
  refine g_istore_n (i := 2) (pc1 := 2) dX8_saturationOf_1 rfl rfl (Nat.le_of_ble_eq_true rfl) ?_
  refine g_iconst (v := 0) (pc1 := 3) dX8_saturationOf_2 rfl (by decide) ?_
  refine g_istore_n (i := 3) (pc1 := 4) dX8_saturationOf_3 rfl rfl (Nat.le_of_ble_eq_true rfl) ?_
  refine down0 (P := fun i => aGo _ 4 [.ref 24, .int (nI v), .int (nI (cnt (hC n A col v) i)), .int (nI i)] [] (rp x (nI n, nr, ot) (cf, sf) F W L T V P) 0 0) 30 ?_ ?_
  · refine g_iload_n (i := 3) (pc1 := 5) dX8_saturationOf_4 rfl rfl rfl ?_
    refine g_bipush (v := 30) (pc1 := 7) dX8_saturationOf_5 rfl (by decide) ?_
    refine g_icmp_ge (pc1 := 10) (tgt := 33) dX8_saturationOf_7 rfl (by decide) (fun _ => ?_) (fun c => absurd (by decide) c)
    refine g_iload_n (i := 2) (pc1 := 34) dX8_saturationOf_33 rfl rfl rfl ?_
    refine g_iret dX8_saturationOf_34 rfl rfl (Nat.le_of_ble_eq_true rfl) (Nat.le_of_ble_eq_true rfl) ?_
    exact ⟨rfl, rfl⟩
  · intro i hi ih
    refine g_iload_n (i := 3) (pc1 := 5) dX8_saturationOf_4 rfl rfl rfl ?_
    refine g_bipush (v := 30) (pc1 := 7) dX8_saturationOf_5 rfl (by decide) ?_
    refine g_icmp_ge (pc1 := 10) (tgt := 33) dX8_saturationOf_7 rfl (by decide) (fun c => absurd c (fun c => absurd ((nI_leI (a := 30) (b := i) (by omega) (by omega)).mp c) (by omega))) (fun _ => ?_)
    refine g_iload_n (i := 2) (pc1 := 11) dX8_saturationOf_10 rfl rfl rfl ?_
    refine g_aload_n (i := 0) (pc1 := 12) dX8_saturationOf_11 rfl rfl rfl ?_
    refine g_iload_n (i := 1) (pc1 := 13) dX8_saturationOf_12 rfl rfl rfl ?_
    refine g_iload_n (i := 3) (pc1 := 14) dX8_saturationOf_13 rfl rfl rfl ?_
    refine g_V2 (M := mX8_neighbourWith) (pc1 := 17) dX8_saturationOf_14 rfl lkX8_84 tmX8_neighbourWith rfl (r_neighbourWith x n nr ot cf sf F W L T V P hg hn hc h30 (v := v) (c := i) hv (by omega)) (Nat.le_of_ble_eq_true rfl) rfl (Nat.le_of_ble_eq_true rfl) (Nat.le_of_ble_eq_true rfl) ?_
    rintro _ _ ⟨rfl, rfl⟩
    have e0 : cnt (hC n A col v) (i + 1) = cnt (hC n A col v) i + (if hC n A col v i then 1 else 0) := rfl
    have hneg := enL_neg hn (nbW_le n A col v i)
    show aGo _ 17 _ [.int (enL n (nbW n A col v i)), .int (nI (cnt (hC n A col v) i))] _ _ _
    refine g_if_lt (pc1 := 20) (tgt := 24) dX8_saturationOf_17 rfl (by decide) (fun c => ?_) (fun c => ?_)
    · have h0 : hC n A col v i = false := by
        cases h : hC n A col v i with
        | false => rfl
        | true => exact absurd (nbW_hC.mpr h) (hneg.mp c)
      refine g_iconst (v := 0) (pc1 := 25) dX8_saturationOf_24 rfl (by decide) ?_
      refine g_iadd (pc1 := 26) dX8_saturationOf_25 rfl ?_
      refine g_istore_n (i := 2) (pc1 := 27) dX8_saturationOf_26 rfl rfl (Nat.le_of_ble_eq_true rfl) ?_
      refine g_iinc (pc1 := 30) dX8_saturationOf_27 rfl rfl rfl ?_
      refine g_goto (tgt := 4) dX8_saturationOf_30 (by decide) ?_
      refine aGo.eq ih ?_ rfl rfl
      show [Value.ref 24, .int (nI v), .int (nI (cnt (hC n A col v) i) + 0), .int (nI i + Int32.ofInt 1)] = _
      rw [show nI i + Int32.ofInt 1 = nI (i + 1) from nI_1 i, e0, h0]
      simp
    · have h0 : hC n A col v i = true := nbW_hC.mp (Classical.byContradiction fun q => c (hneg.mpr q))
      refine g_iconst (v := 1) (pc1 := 21) dX8_saturationOf_20 rfl (by decide) ?_
      refine g_goto (tgt := 25) dX8_saturationOf_21 (by decide) ?_
      refine g_iadd (pc1 := 26) dX8_saturationOf_25 rfl ?_
      refine g_istore_n (i := 2) (pc1 := 27) dX8_saturationOf_26 rfl rfl (Nat.le_of_ble_eq_true rfl) ?_
      refine g_iinc (pc1 := 30) dX8_saturationOf_27 rfl rfl rfl ?_
      refine g_goto (tgt := 4) dX8_saturationOf_30 (by decide) ?_
      refine aGo.eq ih ?_ rfl rfl
      show [Value.ref 24, .int (nI v), .int (nI (cnt (hC n A col v) i) + 1), .int (nI i + Int32.ofInt 1)] = _
      rw [show nI i + Int32.ofInt 1 = nI (i + 1) from nI_1 i, e0, h0, nI_1]
      rfl
theorem r_bare {A : Nat → Nat → Bool} (hg : rG (nI n, nr, ot) n A) (hn : n ≤ 30) {col : tCol} (hc : rK cf col) (h30 : c30 col) {v : Nat} (hv : v < 30) : aRet 1 0 0 mX8_bare [.ref 24, .int (nI v)] (rp x (nI n, nr, ot) (cf, sf) F W L T V P) (fun w g => w = some (.int (nI (bnN n A col v))) ∧ g = rp x (nI n, nr, ot) (cf, sf) F W L T V P) := by
  refine aRet.of (by decide) (Nat.le_of_ble_eq_true rfl) (a_ok2 rfl) ?_
  refine g_iconst (v := 0) (pc1 := 1) dX8_bare_0 rfl (by decide) ?_
  refine g_istore_n (i := 2) (pc1 := 2) dX8_bare_1 rfl rfl (Nat.le_of_ble_eq_true rfl) ?_
  refine g_iconst (v := 0) (pc1 := 3) dX8_bare_2 rfl (by decide) ?_
  refine g_istore_n (i := 3) (pc1 := 4) dX8_bare_3 rfl rfl (Nat.le_of_ble_eq_true rfl) ?_
  refine down0 (P := fun i => aGo _ 4 [.ref 24, .int (nI v), .int (nI (cnt (fun w => A v w && (col w).isNone) i)), .int (nI i)] [] (rp x (nI n, nr, ot) (cf, sf) F W L T V P) 0 0) n ?_ ?_
  · refine g_iload_n (i := 3) (pc1 := 5) dX8_bare_4 rfl rfl rfl ?_
    refine g_aload_n (i := 0) (pc1 := 6) dX8_bare_5 rfl rfl rfl ?_
    refine g_get (pc1 := 9) dX8_bare_6 rfl flX8_50 rfl rfl ?_
    refine g_icmp_ge (pc1 := 12) (tgt := 44) dX8_bare_9 rfl (by decide) (fun _ => ?_) (fun c => absurd (Int32.le_refl _) c)
    refine g_iload_n (i := 2) (pc1 := 45) dX8_bare_44 rfl rfl rfl ?_
    refine g_iret dX8_bare_45 rfl rfl (Nat.le_of_ble_eq_true rfl) (Nat.le_of_ble_eq_true rfl) ?_
    exact ⟨rfl, rfl⟩
  · intro i hi ih
    have e0 : cnt (fun w => A v w && (col w).isNone) (i + 1) = cnt (fun w => A v w && (col w).isNone) i + (if (A v i && (col i).isNone) then 1 else 0) := rfl
    have z0 : (A v i && (col i).isNone) = false → aGo (1, 0, 0, mX8_bare, none, fun w g => w = some (.int (nI (bnN n A col v))) ∧ g = rp x (nI n, nr, ot) (cf, sf) F W L T V P) 35 [.ref 24, .int (nI v), .int (nI (cnt (fun w => A v w && (col w).isNone) i)), .int (nI i)] [.int (nI (cnt (fun w => A v w && (col w).isNone) i))] (rp x (nI n, nr, ot) (cf, sf) F W L T V P) 0 0 := by
      intro h0
      refine g_iconst (v := 0) (pc1 := 36) dX8_bare_35 rfl (by decide) ?_
      refine g_iadd (pc1 := 37) dX8_bare_36 rfl ?_
      refine g_istore_n (i := 2) (pc1 := 38) dX8_bare_37 rfl rfl (Nat.le_of_ble_eq_true rfl) ?_
      refine g_iinc (pc1 := 41) dX8_bare_38 rfl rfl rfl ?_
      refine g_goto (tgt := 4) dX8_bare_41 (by decide) ?_
      refine aGo.eq ih ?_ rfl rfl
      show [Value.ref 24, .int (nI v), .int (nI (cnt (fun w => A v w && (col w).isNone) i) + 0), .int (nI i + Int32.ofInt 1)] = _
      rw [show nI i + Int32.ofInt 1 = nI (i + 1) from nI_1 i, e0, h0]
      simp
    refine g_iload_n (i := 3) (pc1 := 5) dX8_bare_4 rfl rfl rfl ?_
    refine g_aload_n (i := 0) (pc1 := 6) dX8_bare_5 rfl rfl rfl ?_
    refine g_get (pc1 := 9) dX8_bare_6 rfl flX8_50 rfl rfl ?_
    refine g_icmp_ge (pc1 := 12) (tgt := 44) dX8_bare_9 rfl (by decide) (fun c => absurd c (fun c => absurd ((nI_leI (a := n) (b := i) (by omega) (by omega)).mp c) (by omega))) (fun _ => ?_)
    refine g_iload_n (i := 2) (pc1 := 13) dX8_bare_12 rfl rfl rfl ?_
    refine g_aload_n (i := 0) (pc1 := 14) dX8_bare_13 rfl rfl rfl ?_
    refine g_iload_n (i := 1) (pc1 := 15) dX8_bare_14 rfl rfl rfl ?_
    refine g_iload_n (i := 3) (pc1 := 16) dX8_bare_15 rfl rfl rfl ?_
    refine g_V2 (M := mX8_isNear) (pc1 := 19) dX8_bare_16 rfl lkX8_62 tmX8_isNear rfl (r_isNear x n nr ot (cf, sf) F W L T V P hg (a := v) (b := i) hv (by omega)) (Nat.le_of_ble_eq_true rfl) rfl (Nat.le_of_ble_eq_true rfl) (Nat.le_of_ble_eq_true rfl) ?_
    rintro _ _ ⟨rfl, rfl⟩
    show aGo _ 19 _ [.int (bI (A v i)), .int (nI (cnt (fun w => A v w && (col w).isNone) i))] _ _ _
    refine g_if_eq (pc1 := 22) (tgt := 35) dX8_bare_19 rfl (by decide) (fun c1 => ?_) (fun c1 => ?_)
    · rw [bI_eq0] at c1
      exact z0 (by rw [c1]; rfl)
    · rw [bI_ne0] at c1
      refine g_aload_n (i := 0) (pc1 := 23) dX8_bare_22 rfl rfl rfl ?_
      refine g_get (pc1 := 26) dX8_bare_23 rfl flX8_16 rfl rfl ?_
      refine g_iload_n (i := 3) (pc1 := 27) dX8_bare_26 rfl rfl rfl ?_
      refine g_ialdJ (pc1 := 28) dX8_bare_27 rfl rfl rfl (by omega) (by decide) ?_
      rw [show (cf, sf).1 i = enO (col i) from hc i (by omega)]
      have hneg := enO_neg (h30 i)
      refine g_if_ge (pc1 := 31) (tgt := 35) dX8_bare_28 rfl (by decide) (fun c2 => ?_) (fun c2 => ?_)
      · refine z0 ?_
        cases hci : col i with
        | none => exact absurd (hneg.mpr hci) (Int32.not_lt.mpr c2)
        | some d => simp
      · have hci := hneg.mp (Int32.not_le.mp c2)
        refine g_iconst (v := 1) (pc1 := 32) dX8_bare_31 rfl (by decide) ?_
        refine g_goto (tgt := 36) dX8_bare_32 (by decide) ?_
        refine g_iadd (pc1 := 37) dX8_bare_36 rfl ?_
        refine g_istore_n (i := 2) (pc1 := 38) dX8_bare_37 rfl rfl (Nat.le_of_ble_eq_true rfl) ?_
        refine g_iinc (pc1 := 41) dX8_bare_38 rfl rfl rfl ?_
        refine g_goto (tgt := 4) dX8_bare_41 (by decide) ?_
        refine aGo.eq ih ?_ rfl rfl
        show [Value.ref 24, .int (nI v), .int (nI (cnt (fun w => A v w && (col w).isNone) i) + 1), .int (nI i + Int32.ofInt 1)] = _
        rw [show nI i + Int32.ofInt 1 = nI (i + 1) from nI_1 i, e0, c1, hci, nI_1]
        rfl
theorem r_standing (N : tG) (hN : N.1 = nI n) (hn : n ≤ 30) {col : tCol} (hc : rK cf col) (h30 : c30 col) : aRet 0 0 0 mX8_standing [.ref 24] (rp x N (cf, sf) F W L T V P) (fun w g => w = some (.int (nI (stN col n))) ∧ g = rp x N (cf, sf) F W L T V P) := by
  have hb : ∀ i, stf (col i) ≤ 30 := fun i => by
    cases hci : col i with
    | none => exact Nat.zero_le _
    | some c => have := h30 i c hci; show c + 1 ≤ 30; omega
  have hm : ∀ i, maxN (fun v => stf (col v)) i ≤ 30 := fun i => maxN_le fun v _ => hb v
  refine aRet.of (by decide) (Nat.le_of_ble_eq_true rfl) (a_ok2 rfl) ?_
  refine g_iconst (v := 0) (pc1 := 1) dX8_standing_0 rfl (by decide) ?_
  refine g_istore_n (i := 1) (pc1 := 2) dX8_standing_1 rfl rfl (Nat.le_of_ble_eq_true rfl) ?_
  refine g_iconst (v := 0) (pc1 := 3) dX8_standing_2 rfl (by decide) ?_
  refine g_istore_n (i := 2) (pc1 := 4) dX8_standing_3 rfl rfl (Nat.le_of_ble_eq_true rfl) ?_
  refine down0 (P := fun i => aGo _ 4 [.ref 24, .int (nI (maxN (fun v => stf (col v)) i)), .int (nI i)] [] (rp x N (cf, sf) F W L T V P) 0 0) n ?_ ?_
  · refine g_iload_n (i := 2) (pc1 := 5) dX8_standing_4 rfl rfl rfl ?_
    refine g_aload_n (i := 0) (pc1 := 6) dX8_standing_5 rfl rfl rfl ?_
    refine g_get (pc1 := 9) dX8_standing_6 rfl flX8_50 rfl rfl ?_
    rw [hN]
    refine g_icmp_ge (pc1 := 12) (tgt := 43) dX8_standing_9 rfl (by decide) (fun _ => ?_) (fun c => absurd (Int32.le_refl _) c)
    refine g_iload_n (i := 1) (pc1 := 44) dX8_standing_43 rfl rfl rfl ?_
    refine g_iret dX8_standing_44 rfl rfl (Nat.le_of_ble_eq_true rfl) (Nat.le_of_ble_eq_true rfl) ?_
    exact ⟨rfl, rfl⟩
  · intro i hi ih
    have e0 : maxN (fun v => stf (col v)) (i + 1) = if maxN (fun v => stf (col v)) i < stf (col i) then stf (col i) else maxN (fun v => stf (col v)) i := rfl
    have l1 := hb i
    have l2 := hm i
    refine g_iload_n (i := 2) (pc1 := 5) dX8_standing_4 rfl rfl rfl ?_
    refine g_aload_n (i := 0) (pc1 := 6) dX8_standing_5 rfl rfl rfl ?_
    refine g_get (pc1 := 9) dX8_standing_6 rfl flX8_50 rfl rfl ?_
    rw [hN]
    refine g_icmp_ge (pc1 := 12) (tgt := 43) dX8_standing_9 rfl (by decide) (fun c => absurd c (fun c => absurd ((nI_leI (a := n) (b := i) (by omega) (by omega)).mp c) (by omega))) (fun _ => ?_)
    refine g_aload_n (i := 0) (pc1 := 13) dX8_standing_12 rfl rfl rfl ?_
    refine g_get (pc1 := 16) dX8_standing_13 rfl flX8_16 rfl rfl ?_
    refine g_iload_n (i := 2) (pc1 := 17) dX8_standing_16 rfl rfl rfl ?_
    refine g_ialdJ (pc1 := 18) dX8_standing_17 rfl rfl rfl (by omega) (by decide) ?_
    refine g_iconst (v := 1) (pc1 := 19) dX8_standing_18 rfl (by decide) ?_
    refine g_iadd (pc1 := 20) dX8_standing_19 rfl ?_
    refine g_iload_n (i := 1) (pc1 := 21) dX8_standing_20 rfl rfl rfl ?_
    dsimp only
    rw [hc i (by omega), enO_1]
    refine g_icmp_le (pc1 := 24) (tgt := 35) dX8_standing_21 rfl (by decide) (fun c1 => ?_) (fun c1 => ?_)
    · have := (nI_leI (a := stf (col i)) (b := maxN (fun v => stf (col v)) i) (by omega) (by omega)).mp c1
      refine g_iload_n (i := 1) (pc1 := 36) dX8_standing_35 rfl rfl rfl ?_
      refine g_istore_n (i := 1) (pc1 := 37) dX8_standing_36 rfl rfl (Nat.le_of_ble_eq_true rfl) ?_
      refine g_iinc (pc1 := 40) dX8_standing_37 rfl rfl rfl ?_
      refine g_goto (tgt := 4) dX8_standing_40 (by decide) ?_
      refine aGo.eq ih ?_ rfl rfl
      show [Value.ref 24, .int (nI (maxN (fun v => stf (col v)) i)), .int (nI i + Int32.ofInt 1)] = _
      rw [show nI i + Int32.ofInt 1 = nI (i + 1) from nI_1 i, e0, if_neg (by omega)]
    · have : ¬ stf (col i) ≤ maxN (fun v => stf (col v)) i := fun q => c1 ((nI_leI (a := stf (col i)) (b := maxN (fun v => stf (col v)) i) (by omega) (by omega)).mpr q)
      refine g_aload_n (i := 0) (pc1 := 25) dX8_standing_24 rfl rfl rfl ?_
      refine g_get (pc1 := 28) dX8_standing_25 rfl flX8_16 rfl rfl ?_
      refine g_iload_n (i := 2) (pc1 := 29) dX8_standing_28 rfl rfl rfl ?_
      refine g_ialdJ (pc1 := 30) dX8_standing_29 rfl rfl rfl (by omega) (by decide) ?_
      refine g_iconst (v := 1) (pc1 := 31) dX8_standing_30 rfl (by decide) ?_
      refine g_iadd (pc1 := 32) dX8_standing_31 rfl ?_
      dsimp only
      rw [hc i (by omega), enO_1]
      refine g_goto (tgt := 36) dX8_standing_32 (by decide) ?_
      refine g_istore_n (i := 1) (pc1 := 37) dX8_standing_36 rfl rfl (Nat.le_of_ble_eq_true rfl) ?_
      refine g_iinc (pc1 := 40) dX8_standing_37 rfl rfl rfl ?_
      refine g_goto (tgt := 4) dX8_standing_40 (by decide) ?_
      refine aGo.eq ih ?_ rfl rfl
      show [Value.ref 24, .int (nI (stf (col i))), .int (nI i + Int32.ofInt 1)] = _
      rw [show nI i + Int32.ofInt 1 = nI (i + 1) from nI_1 i, e0, if_pos (by omega)]
set_option maxHeartbeats 1000000 in
theorem r_choice {A : Nat → Nat → Bool} (hg : rG (nI n, nr, ot) n A) (hk : Gok n A) {col : tCol} (hc : rK cf col) (h30 : c30 col) : aRet 3 0 0 mX8_choice [.ref 24] (rp x (nI n, nr, ot) (cf, sf) F W L T V P) (fun w g => w = some (.int (enO (chS n A col))) ∧ g = rp x (nI n, nr, ot) (cf, sf) F W L T V P) := by
  have hn := hk.1
  refine aRet.of (by decide) (Nat.le_of_ble_eq_true rfl) (a_ok2 rfl) ?_
  refine g_iconst (v := (-1)) (pc1 := 1) dX8_choice_0 rfl (by decide) ?_
  refine g_istore_n (i := 1) (pc1 := 2) dX8_choice_1 rfl rfl (Nat.le_of_ble_eq_true rfl) ?_
  refine g_iconst (v := 0) (pc1 := 3) dX8_choice_2 rfl (by decide) ?_
  refine g_istore_n (i := 2) (pc1 := 4) dX8_choice_3 rfl rfl (Nat.le_of_ble_eq_true rfl) ?_
  refine down0 (P := fun i => aGo _ 4 [.ref 24, .int (enO (amx (brP n col) (chF n A col) i)), .int (nI i), .null] [] (rp x (nI n, nr, ot) (cf, sf) F W L T V P) 0 0) n ?_ ?_
  · refine g_iload_n (i := 2) (pc1 := 5) dX8_choice_4 rfl rfl rfl ?_
    refine g_aload_n (i := 0) (pc1 := 6) dX8_choice_5 rfl rfl rfl ?_
    refine g_get (pc1 := 9) dX8_choice_6 rfl flX8_50 rfl rfl ?_
    refine g_icmp_ge (pc1 := 12) (tgt := 96) dX8_choice_9 rfl (by decide) (fun _ => ?_) (fun c => absurd (Int32.le_refl _) c)
    refine g_iload_n (i := 1) (pc1 := 97) dX8_choice_96 rfl rfl rfl ?_
    refine g_iret dX8_choice_97 rfl rfl (Nat.le_of_ble_eq_true rfl) (Nat.le_of_ble_eq_true rfl) ?_
    exact ⟨rfl, rfl⟩
  · intro i hi ih
    have e0 : amx (brP n col) (chF n A col) (i + 1) = if brP n col i = true then (match amx (brP n col) (chF n A col) i with
          | none => some i
          | some b => if chF n A col b < chF n A col i then some i else some b) else amx (brP n col) (chF n A col) i := rfl
    refine g_iload_n (i := 2) (pc1 := 5) dX8_choice_4 rfl rfl rfl ?_
    refine g_aload_n (i := 0) (pc1 := 6) dX8_choice_5 rfl rfl rfl ?_
    refine g_get (pc1 := 9) dX8_choice_6 rfl flX8_50 rfl rfl ?_
    refine g_icmp_ge (pc1 := 12) (tgt := 96) dX8_choice_9 rfl (by decide) (fun c => absurd c (fun c => absurd ((nI_leI (a := n) (b := i) (by omega) (by omega)).mp c) (by omega))) (fun _ => ?_)
    refine g_aload_n (i := 0) (pc1 := 13) dX8_choice_12 rfl rfl rfl ?_
    refine g_get (pc1 := 16) dX8_choice_13 rfl flX8_16 rfl rfl ?_
    refine g_iload_n (i := 2) (pc1 := 17) dX8_choice_16 rfl rfl rfl ?_
    refine g_ialdJ (pc1 := 18) dX8_choice_17 rfl rfl rfl (by omega) (by decide) ?_
    rw [show (cf, sf).1 i = enO (col i) from hc i (by omega)]
    have hneg := enO_neg (h30 i)
    refine g_if_ge (pc1 := 21) (tgt := 90) dX8_choice_18 rfl (by decide) (fun c1 => ?_) (fun c1 => ?_)
    · have hbr : brP n col i = false := by
        cases hci : col i with
        | none => exact absurd (hneg.mpr hci) (Int32.not_lt.mpr c1)
        | some d => simp [brP, hci]
      refine g_iinc (pc1 := 93) dX8_choice_90 rfl rfl rfl ?_
      refine g_goto (tgt := 4) dX8_choice_93 (by decide) ?_
      refine aGo.eq ih ?_ rfl rfl
      show [Value.ref 24, .int (enO (amx (brP n col) (chF n A col) i)), .int (nI i + Int32.ofInt 1), .null] = _
      rw [hbr] at e0
      rw [show nI i + Int32.ofInt 1 = nI (i + 1) from nI_1 i, e0]
      rfl
    · have hci := hneg.mp (Int32.not_le.mp c1)
      have hbr : brP n col i = true := by simp [brP, hi, hci]
      rw [if_pos hbr] at e0
      -- the two ends
      have fin : ∀ (y : Bool), (y = true → amx (brP n col) (chF n A col) (i + 1) = some i) → (y = false → amx (brP n col) (chF n A col) (i + 1) = amx (brP n col) (chF n A col) i) → aGo (3, 0, 0, mX8_choice, none, fun w g => w = some (.int (enO (chS n A col))) ∧ g = rp x (nI n, nr, ot) (cf, sf) F W L T V P) 79 [.ref 24, .int (enO (amx (brP n col) (chF n A col) i)), .int (nI i), .null] [.int (bI y)] (rp x (nI n, nr, ot) (cf, sf) F W L T V P) 0 0 := by
        intro y h1 h2
        refine g_istore_n (i := 3) (pc1 := 80) dX8_choice_79 rfl rfl (Nat.le_of_ble_eq_true rfl) ?_
        refine g_iload_n (i := 3) (pc1 := 81) dX8_choice_80 rfl rfl rfl ?_
        cases y with
        | false =>
          refine g_if_eq (pc1 := 84) (tgt := 88) dX8_choice_81 rfl (by decide) (fun _ => ?_) (fun c => absurd rfl c)
          refine g_iload_n (i := 1) (pc1 := 89) dX8_choice_88 rfl rfl rfl ?_
          refine g_istore_n (i := 1) (pc1 := 90) dX8_choice_89 rfl rfl (Nat.le_of_ble_eq_true rfl) ?_
          refine g_iinc (pc1 := 93) dX8_choice_90 rfl rfl rfl ?_
          refine g_goto (tgt := 4) dX8_choice_93 (by decide) ?_
          refine aGo.forget 3 ?_
          refine aGo.eq ih ?_ rfl rfl
          show [Value.ref 24, .int (enO (amx (brP n col) (chF n A col) i)), .int (nI i + Int32.ofInt 1), .null] = _
          rw [show nI i + Int32.ofInt 1 = nI (i + 1) from nI_1 i, h2 rfl]
        | true =>
          refine g_if_eq (pc1 := 84) (tgt := 88) dX8_choice_81 rfl (by decide) (fun c => absurd c (by decide)) (fun _ => ?_)
          refine g_iload_n (i := 2) (pc1 := 85) dX8_choice_84 rfl rfl rfl ?_
          refine g_goto (tgt := 89) dX8_choice_85 (by decide) ?_
          refine g_istore_n (i := 1) (pc1 := 90) dX8_choice_89 rfl rfl (Nat.le_of_ble_eq_true rfl) ?_
          refine g_iinc (pc1 := 93) dX8_choice_90 rfl rfl rfl ?_
          refine g_goto (tgt := 4) dX8_choice_93 (by decide) ?_
          refine aGo.forget 3 ?_
          refine aGo.eq ih ?_ rfl rfl
          show [Value.ref 24, .int (nI i), .int (nI i + Int32.ofInt 1), .null] = _
          rw [show nI i + Int32.ofInt 1 = nI (i + 1) from nI_1 i, h1 rfl]
          rfl
      have mid : ∀ (y : Bool), (y = true → amx (brP n col) (chF n A col) (i + 1) = some i) → (y = false → ∃ b, amx (brP n col) (chF n A col) i = some b ∧ sat n A col i ≤ sat n A col b) → aGo (3, 0, 0, mX8_choice, none, fun w g => w = some (.int (enO (chS n A col))) ∧ g = rp x (nI n, nr, ot) (cf, sf) F W L T V P) 43 [.ref 24, .int (enO (amx (brP n col) (chF n A col) i)), .int (nI i), .null] [.int (bI y)] (rp x (nI n, nr, ot) (cf, sf) F W L T V P) 0 0 := by
        intro y h1 h2
        refine g_istore_n (i := 3) (pc1 := 44) dX8_choice_43 rfl rfl (Nat.le_of_ble_eq_true rfl) ?_
        refine g_iload_n (i := 3) (pc1 := 45) dX8_choice_44 rfl rfl rfl ?_
        cases y with
        | true =>
          refine g_if_ne (pc1 := 48) (tgt := 74) dX8_choice_45 rfl (by decide) (fun _ => ?_) (fun c => absurd c (by decide))
          refine g_iconst (v := 1) (pc1 := 75) dX8_choice_74 rfl (by decide) ?_
          refine g_goto (tgt := 79) dX8_choice_75 (by decide) ?_
          refine aGo.forget 3 ?_
          exact fin true h1 (fun q => by cases q)
        | false =>
          obtain ⟨b, hb, hle⟩ := h2 rfl
          obtain ⟨g1, g2, -⟩ := amx_some hb
          have hsb := sat_le n A col b
          have hsi := sat_le n A col i
          have hbb := bnN_lt (col := col) hk (v := b) (by omega)
          have hbi := bnN_lt (col := col) hk (v := i) hi
          rw [hb] at e0
          simp only [] at e0
          refine aGo.forget 3 ?_
          rw [hb] at fin ⊢
          refine g_if_ne (pc1 := 48) (tgt := 74) dX8_choice_45 rfl (by decide) (fun c => absurd c (fun q => q rfl)) (fun _ => ?_)
          show aGo _ 48 [.ref 24, .int (nI b), .int (nI i), .null] _ _ _ _
          refine g_aload_n (i := 0) (pc1 := 49) dX8_choice_48 rfl rfl rfl ?_
          refine g_iload_n (i := 2) (pc1 := 50) dX8_choice_49 rfl rfl rfl ?_
          refine g_V1 (M := mX8_saturationOf) (pc1 := 53) dX8_choice_50 rfl lkX8_87 tmX8_saturationOf rfl (r_saturationOf x n nr ot cf sf F W L T V P hg hn hc h30 (v := i) (by omega)) (Nat.le_of_ble_eq_true rfl) rfl (Nat.le_of_ble_eq_true rfl) (Nat.le_of_ble_eq_true rfl) ?_
          rintro _ _ ⟨rfl, rfl⟩
          refine g_aload_n (i := 0) (pc1 := 54) dX8_choice_53 rfl rfl rfl ?_
          refine g_iload_n (i := 1) (pc1 := 55) dX8_choice_54 rfl rfl rfl ?_
          refine g_V1 (M := mX8_saturationOf) (pc1 := 58) dX8_choice_55 rfl lkX8_87 tmX8_saturationOf rfl (r_saturationOf x n nr ot cf sf F W L T V P hg hn hc h30 (v := b) (by omega)) (Nat.le_of_ble_eq_true rfl) rfl (Nat.le_of_ble_eq_true rfl) (Nat.le_of_ble_eq_true rfl) ?_
          rintro _ _ ⟨rfl, rfl⟩
          show aGo _ 58 _ [.int (nI (sat n A col b)), .int (nI (sat n A col i))] _ _ _
          have hseq : nI (sat n A col i) = nI (sat n A col b) ↔ sat n A col i = sat n A col b := nI_eq (by omega) (by omega)
          have no : ¬ chF n A col b < chF n A col i → aGo (3, 0, 0, mX8_choice, none, fun w g => w = some (.int (enO (chS n A col))) ∧ g = rp x (nI n, nr, ot) (cf, sf) F W L T V P) 78 [.ref 24, .int (nI b), .int (nI i), .null] [] (rp x (nI n, nr, ot) (cf, sf) F W L T V P) 0 0 := by
            intro hno
            refine g_iconst (v := 0) (pc1 := 79) dX8_choice_78 rfl (by decide) ?_
            exact fin false (fun q => by cases q) (fun _ => by rw [e0, if_neg hno])
          refine g_icmp_ne (pc1 := 61) (tgt := 78) dX8_choice_58 rfl (by decide) (fun c2 => ?_) (fun c2 => ?_)
          · have h5 : ¬ sat n A col i = sat n A col b := fun q => c2 (hseq.mpr q)
            exact no (by unfold chF; omega)
          · have h5 := hseq.mp c2
            refine g_aload_n (i := 0) (pc1 := 62) dX8_choice_61 rfl rfl rfl ?_
            refine g_iload_n (i := 2) (pc1 := 63) dX8_choice_62 rfl rfl rfl ?_
            refine g_V1 (M := mX8_bare) (pc1 := 66) dX8_choice_63 rfl lkX8_90 tmX8_bare rfl (r_bare x n nr ot cf sf F W L T V P hg hn hc h30 (v := i) (by omega)) (Nat.le_of_ble_eq_true rfl) rfl (Nat.le_of_ble_eq_true rfl) (Nat.le_of_ble_eq_true rfl) ?_
            rintro _ _ ⟨rfl, rfl⟩
            refine g_aload_n (i := 0) (pc1 := 67) dX8_choice_66 rfl rfl rfl ?_
            refine g_iload_n (i := 1) (pc1 := 68) dX8_choice_67 rfl rfl rfl ?_
            refine g_V1 (M := mX8_bare) (pc1 := 71) dX8_choice_68 rfl lkX8_90 tmX8_bare rfl (r_bare x n nr ot cf sf F W L T V P hg hn hc h30 (v := b) (by omega)) (Nat.le_of_ble_eq_true rfl) rfl (Nat.le_of_ble_eq_true rfl) (Nat.le_of_ble_eq_true rfl) ?_
            rintro _ _ ⟨rfl, rfl⟩
            show aGo _ 71 _ [.int (nI (bnN n A col b)), .int (nI (bnN n A col i))] _ _ _
            refine g_icmp_le (pc1 := 74) (tgt := 78) dX8_choice_71 rfl (by decide) (fun c3 => ?_) (fun c3 => ?_)
            · have := (nI_leI (a := bnN n A col i) (b := bnN n A col b) (by omega) (by omega)).mp c3
              exact no (by unfold chF; omega)
            · have : ¬ bnN n A col i ≤ bnN n A col b := fun q => c3 ((nI_leI (a := bnN n A col i) (b := bnN n A col b) (by omega) (by omega)).mpr q)
              refine g_iconst (v := 1) (pc1 := 75) dX8_choice_74 rfl (by decide) ?_
              refine g_goto (tgt := 79) dX8_choice_75 (by decide) ?_
              exact fin true (fun _ => by rw [e0, if_pos (by unfold chF; omega)]) (fun q => by cases q)
      refine g_iload_n (i := 1) (pc1 := 22) dX8_choice_21 rfl rfl rfl ?_
      cases hb : amx (brP n col) (chF n A col) i with
      | none =>
        rw [hb] at mid e0
        refine g_if_lt (pc1 := 25) (tgt := 38) dX8_choice_22 rfl (by decide) (fun _ => ?_) (fun c => absurd (by decide) c)
        refine g_iconst (v := 1) (pc1 := 39) dX8_choice_38 rfl (by decide) ?_
        refine g_goto (tgt := 43) dX8_choice_39 (by decide) ?_
        exact mid true (fun _ => e0) (fun q => by cases q)
      | some b =>
        obtain ⟨g1, g2, -⟩ := amx_some hb
        have hsb := sat_le n A col b
        have hsi := sat_le n A col i
        have hbb := bnN_lt (col := col) hk (v := b) (by omega)
        rw [hb] at mid e0
        simp only [] at e0
        refine g_if_lt (pc1 := 25) (tgt := 38) dX8_choice_22 rfl (by decide) (fun c => absurd c (nI_pos (by omega))) (fun _ => ?_)
        show aGo _ 25 [.ref 24, .int (nI b), .int (nI i), .null] _ _ _ _
        refine g_aload_n (i := 0) (pc1 := 26) dX8_choice_25 rfl rfl rfl ?_
        refine g_iload_n (i := 2) (pc1 := 27) dX8_choice_26 rfl rfl rfl ?_
        refine g_V1 (M := mX8_saturationOf) (pc1 := 30) dX8_choice_27 rfl lkX8_87 tmX8_saturationOf rfl (r_saturationOf x n nr ot cf sf F W L T V P hg hn hc h30 (v := i) (by omega)) (Nat.le_of_ble_eq_true rfl) rfl (Nat.le_of_ble_eq_true rfl) (Nat.le_of_ble_eq_true rfl) ?_
        rintro _ _ ⟨rfl, rfl⟩
        refine g_aload_n (i := 0) (pc1 := 31) dX8_choice_30 rfl rfl rfl ?_
        refine g_iload_n (i := 1) (pc1 := 32) dX8_choice_31 rfl rfl rfl ?_
        refine g_V1 (M := mX8_saturationOf) (pc1 := 35) dX8_choice_32 rfl lkX8_87 tmX8_saturationOf rfl (r_saturationOf x n nr ot cf sf F W L T V P hg hn hc h30 (v := b) (by omega)) (Nat.le_of_ble_eq_true rfl) rfl (Nat.le_of_ble_eq_true rfl) (Nat.le_of_ble_eq_true rfl) ?_
        rintro _ _ ⟨rfl, rfl⟩
        show aGo _ 35 _ [.int (nI (sat n A col b)), .int (nI (sat n A col i))] _ _ _
        refine g_icmp_le (pc1 := 38) (tgt := 42) dX8_choice_35 rfl (by decide) (fun c2 => ?_) (fun c2 => ?_)
        · have := (nI_leI (a := sat n A col i) (b := sat n A col b) (by omega) (by omega)).mp c2
          refine g_iconst (v := 0) (pc1 := 43) dX8_choice_42 rfl (by decide) ?_
          exact mid false (fun q => by cases q) (fun _ => ⟨b, rfl, this⟩)
        · have : ¬ sat n A col i ≤ sat n A col b := fun q => c2 ((nI_leI (a := sat n A col i) (b := sat n A col b) (by omega) (by omega)).mpr q)
          refine g_iconst (v := 1) (pc1 := 39) dX8_choice_38 rfl (by decide) ?_
          refine g_goto (tgt := 43) dX8_choice_39 (by decide) ?_
          exact mid true (fun _ => by rw [e0, if_pos (by unfold chF; omega)]) (fun q => by cases q)
end
