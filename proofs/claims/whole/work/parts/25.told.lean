/-! ===== told colours ===== -/
def pC (P : fI) (pc : tCol) : Prop := ∀ v, v < 30 → P v = enO (pc v) ∧ ∀ c, pc v = some c → c < 30
theorem enO_inj {a b : Option Nat} (ha : ∀ c, a = some c → c < 30) (hb : ∀ c, b = some c → c < 30) : enO a = enO b ↔ a = b := by
  constructor
  · intro h
    cases a with
    | none =>
      cases b with
      | none => rfl
      | some d => exact absurd (show nI d ≤ -1 by rw [show nI d = -1 from h.symm]; exact Int32.le_refl _) (nI_m1_lt (by have := hb d rfl; omega))
    | some c =>
      cases b with
      | none => exact absurd (show nI c ≤ -1 by rw [show nI c = -1 from h]; exact Int32.le_refl _) (nI_m1_lt (by have := ha c rfl; omega))
      | some d =>
        have h1 := ha c rfl
        have h2 := hb d rfl
        rw [(nI_eq (a := c) (b := d) (by omega) (by omega)).mp h]
  · intro h; rw [h]
theorem pC.inj {P : fI} {pc : tCol} (h : pC P pc) {v : Nat} (hv : v < 30) {o : Option Nat} (ho : ∀ c, o = some c → c < 30) : P v = enO o ↔ pc v = o := by
  rw [(h v hv).1]
  exact enO_inj (h v hv).2 ho
def amgS (n : Nat) (pc : tCol) (p : Nat → Bool) : Nat → Bool := fun c => ex (fun v => p v && decide (pc v = some c)) n
def nbO (n : Nat) (A : Nat → Nat → Bool) (p : Nat → Bool) : Nat → Bool := fun i => ex (fun v => p v && A v i) n
def brg (n : Nat) (pc : tCol) (c : Nat) : Nat → Bool := fun v => decide (v < n) && decide (pc v = some c)
def rch (n : Nat) (A : Nat → Nat → Bool) (s : Nat → Bool) (v : Nat) : Nat → Nat → Bool
  | 0 => fun j => decide (j = v)
  | i + 1 => fun j => rch n A s v i j || (nbO n A (rch n A s v i) j && s j)
def chS2 (n : Nat) (A : Nat → Nat → Bool) (pc : tCol) (v c0 c : Nat) : Nat → Bool := rch n A (fun j => brg n pc c0 j || brg n pc c j) v n
def clQ (A : Nat → Nat → Bool) (pc : tCol) (a b : Nat) : Bool := decide (a < b) && (A a b && ((pc a).isSome && decide (pc a = pc b)))
def clT (n : Nat) (A : Nat → Nat → Bool) (pc : tCol) : Nat := sumN (fun a => cnt (clQ A pc a) n) n
section
variable (n : Nat) (nr tn : fI) (K : tK) (S : tS) (L1 : tL) (U : tU) (L2 L3 : tL) (C : Int32 × Int32) (P : fI) (r : List aC)
theorem c_among (hn : n ≤ 30) {pc : tCol} (hP : pC P pc) (p : Nat → Bool) : aRet 1 0 0 mX6_among [.ref 22, .int (bS p)] (cp (nI n, nr, tn) K S L1 U L2 L3 C P r) (fun x g => x = some (.int (bS (amgS n pc p))) ∧ g = cp (nI n, nr, tn) K S L1 U L2 L3 C P r) := by
  refine aRet.of (by decide) (Nat.le_of_ble_eq_true rfl) (a_ok2 rfl) ?_
  refine g_iconst (v := 0) (pc1 := 1) dX6_among_0 rfl (by decide) ?_
  refine g_istore_n (i := 2) (pc1 := 2) dX6_among_1 rfl rfl (Nat.le_of_ble_eq_true rfl) ?_
  refine g_iconst (v := 0) (pc1 := 3) dX6_among_2 rfl (by decide) ?_
  refine g_istore_n (i := 3) (pc1 := 4) dX6_among_3 rfl rfl (Nat.le_of_ble_eq_true rfl) ?_
  rw [bS_0]
  refine down0 (P := fun w => aGo _ 4 [.ref 22, .int (bS p), .int (bS (amgS w pc p)), .int (nI w)] [] (cp (nI n, nr, tn) K S L1 U L2 L3 C P r) 0 0) n ?_ ?_
  · refine g_iload_n (i := 3) (pc1 := 5) dX6_among_4 rfl rfl rfl ?_
    refine g_aload_n (i := 0) (pc1 := 6) dX6_among_5 rfl rfl rfl ?_
    refine g_get (pc1 := 9) dX6_among_6 rfl flX6_15 rfl rfl ?_
    refine g_get (pc1 := 12) dX6_among_9 rfl flX6_25 rfl rfl ?_
    refine g_icmp_ge (pc1 := 15) (tgt := 50) dX6_among_12 rfl (by decide) (fun _ => ?_) (fun c => absurd (Int32.le_refl _) c)
    refine g_iload_n (i := 2) (pc1 := 51) dX6_among_50 rfl rfl rfl ?_
    refine g_iret dX6_among_51 rfl rfl (Nat.le_of_ble_eq_true rfl) (Nat.le_of_ble_eq_true rfl) ?_
    exact ⟨rfl, rfl⟩
  · intro w hw ih
    refine g_iload_n (i := 3) (pc1 := 5) dX6_among_4 rfl rfl rfl ?_
    refine g_aload_n (i := 0) (pc1 := 6) dX6_among_5 rfl rfl rfl ?_
    refine g_get (pc1 := 9) dX6_among_6 rfl flX6_15 rfl rfl ?_
    refine g_get (pc1 := 12) dX6_among_9 rfl flX6_25 rfl rfl ?_
    refine g_icmp_ge (pc1 := 15) (tgt := 50) dX6_among_12 rfl (by decide) (fun c => absurd c (fun c => absurd ((nI_leI (a := n) (b := w) (by omega) (by omega)).mp c) (by omega))) (fun _ => ?_)
    refine g_iload_n (i := 1) (pc1 := 16) dX6_among_15 rfl rfl rfl ?_
    refine g_iload_n (i := 3) (pc1 := 17) dX6_among_16 rfl rfl rfl ?_
    refine g_SN2 (M := mX7_contains) (pc1 := 20) dX6_among_17 rfl ⟨rfl, lnX6_31⟩ tmX7_contains (c_contains (bS p) (j := w) (by omega)) (Nat.le_of_ble_eq_true rfl) rfl (Nat.le_of_ble_eq_true rfl) (Nat.le_of_ble_eq_true rfl) ?_
    rintro _ _ ⟨rfl, rfl⟩
    rw [show bt (bS p) w = p w by rw [bt_bS]; simp [show w < 32 by omega]]
    have hsame : (∀ c, (p w && decide (pc w = some c)) = false) → aGo (1, 0, 0, mX6_among, none, fun x g => x = some (.int (bS (amgS n pc p))) ∧ g = cp (nI n, nr, tn) K S L1 U L2 L3 C P r) 44 [.ref 22, .int (bS p), .int (bS (amgS w pc p)), .int (nI w)] [] (cp (nI n, nr, tn) K S L1 U L2 L3 C P r) 0 0 := by
      intro h0
      refine g_iinc (pc1 := 47) dX6_among_44 rfl rfl rfl ?_
      refine g_goto (tgt := 4) dX6_among_47 (by decide) ?_
      refine aGo.eq ih ?_ rfl rfl
      show [Value.ref 22, .int (bS p), .int (bS (amgS w pc p)), .int (nI w + Int32.ofInt 1)] = _
      have e : amgS (w + 1) pc p = amgS w pc p := by
        funext c
        show (ex _ w || (p w && decide (pc w = some c))) = _
        rw [h0 c]; simp [amgS]
      rw [show nI w + Int32.ofInt 1 = nI (w + 1) from nI_1 w, e]
    refine g_if_eq (pc1 := 23) (tgt := 44) dX6_among_20 rfl (by decide) (fun c1 => ?_) (fun c1 => ?_)
    · rw [bI_eq0] at c1
      exact hsame fun c => by rw [c1]; rfl
    · rw [bI_ne0] at c1
      refine g_aload_n (i := 0) (pc1 := 24) dX6_among_23 rfl rfl rfl ?_
      refine g_get (pc1 := 27) dX6_among_24 rfl flX6_9 rfl rfl ?_
      refine g_iload_n (i := 3) (pc1 := 28) dX6_among_27 rfl rfl rfl ?_
      refine g_ialdJ (pc1 := 29) dX6_among_28 rfl rfl rfl (by omega) (by decide) ?_
      refine g_iconst (v := (-1)) (pc1 := 30) dX6_among_29 rfl (by decide) ?_
      refine g_icmp_eq (pc1 := 33) (tgt := 44) dX6_among_30 rfl (by decide) (fun c2 => ?_) (fun c2 => ?_)
      · have h2 := (hP.inj (v := w) (by omega) (o := none) (fun c h => by cases h)).mp c2
        exact hsame fun c => by rw [h2]; simp
      · cases h3 : pc w with
        | none => exact absurd ((hP.inj (v := w) (by omega) (o := none) (fun c h => by cases h)).mpr h3) c2
        | some d =>
          have hd := (hP w (by omega)).2 d h3
          refine g_iload_n (i := 2) (pc1 := 34) dX6_among_33 rfl rfl rfl ?_
          refine g_iconst (v := 1) (pc1 := 35) dX6_among_34 rfl (by decide) ?_
          refine g_aload_n (i := 0) (pc1 := 36) dX6_among_35 rfl rfl rfl ?_
          refine g_get (pc1 := 39) dX6_among_36 rfl flX6_9 rfl rfl ?_
          refine g_iload_n (i := 3) (pc1 := 40) dX6_among_39 rfl rfl rfl ?_
          refine g_ialdJ (pc1 := 41) dX6_among_40 rfl rfl rfl (by omega) (by decide) ?_
          rw [show P w = nI d by rw [(hP w (by omega)).1, h3]; rfl]
          refine g_ishl (pc1 := 42) dX6_among_41 rfl ?_
          refine g_ior (pc1 := 43) dX6_among_42 rfl ?_
          refine g_istore_n (i := 2) (pc1 := 44) dX6_among_43 rfl rfl (Nat.le_of_ble_eq_true rfl) ?_
          refine g_iinc (pc1 := 47) dX6_among_44 rfl rfl rfl ?_
          refine g_goto (tgt := 4) dX6_among_47 (by decide) ?_
          refine aGo.eq ih ?_ rfl rfl
          show [Value.ref 22, .int (bS p), .int (bS (amgS w pc p) ||| (1 : Int32) <<< (nI d &&& 31)), .int (nI w + Int32.ofInt 1)] = _
          rw [show nI w + Int32.ofInt 1 = nI (w + 1) from nI_1 w, bS_bit (by omega), bS_or]
          have e : (fun i => amgS w pc p i || decide (i = d)) = amgS (w + 1) pc p := by
            funext c
            show _ = (ex _ w || (p w && decide (pc w = some c)))
            rw [c1, h3, Bool.true_and]
            show (ex _ w || _) = _
            congr 1
            by_cases h : c = d
            · simp [h]
            · simp [h, Ne.symm h]
          rw [e]
theorem c_neighboursOf {A : Nat → Nat → Bool} (hg : hG n nr tn A) (hk : Gok n A) (p : Nat → Bool) : aRet 1 0 0 mX6_neighboursOf [.ref 22, .int (bS p)] (cp (nI n, nr, tn) K S L1 U L2 L3 C P r) (fun x g => x = some (.int (bS (nbO n A p))) ∧ g = cp (nI n, nr, tn) K S L1 U L2 L3 C P r) := by
  have hn := hk.1
  refine aRet.of (by decide) (Nat.le_of_ble_eq_true rfl) (a_ok2 rfl) ?_
  refine g_iconst (v := 0) (pc1 := 1) dX6_neighboursOf_0 rfl (by decide) ?_
  refine g_istore_n (i := 2) (pc1 := 2) dX6_neighboursOf_1 rfl rfl (Nat.le_of_ble_eq_true rfl) ?_
  refine g_iconst (v := 0) (pc1 := 3) dX6_neighboursOf_2 rfl (by decide) ?_
  refine g_istore_n (i := 3) (pc1 := 4) dX6_neighboursOf_3 rfl rfl (Nat.le_of_ble_eq_true rfl) ?_
  rw [bS_0]
  refine down0 (P := fun w => aGo _ 4 [.ref 22, .int (bS p), .int (bS (nbO w A p)), .int (nI w)] [] (cp (nI n, nr, tn) K S L1 U L2 L3 C P r) 0 0) n ?_ ?_
  · refine g_iload_n (i := 3) (pc1 := 5) dX6_neighboursOf_4 rfl rfl rfl ?_
    refine g_aload_n (i := 0) (pc1 := 6) dX6_neighboursOf_5 rfl rfl rfl ?_
    refine g_get (pc1 := 9) dX6_neighboursOf_6 rfl flX6_15 rfl rfl ?_
    refine g_get (pc1 := 12) dX6_neighboursOf_9 rfl flX6_25 rfl rfl ?_
    refine g_icmp_ge (pc1 := 15) (tgt := 41) dX6_neighboursOf_12 rfl (by decide) (fun _ => ?_) (fun c => absurd (Int32.le_refl _) c)
    refine g_iload_n (i := 2) (pc1 := 42) dX6_neighboursOf_41 rfl rfl rfl ?_
    refine g_iret dX6_neighboursOf_42 rfl rfl (Nat.le_of_ble_eq_true rfl) (Nat.le_of_ble_eq_true rfl) ?_
    exact ⟨rfl, rfl⟩
  · intro w hw ih
    refine g_iload_n (i := 3) (pc1 := 5) dX6_neighboursOf_4 rfl rfl rfl ?_
    refine g_aload_n (i := 0) (pc1 := 6) dX6_neighboursOf_5 rfl rfl rfl ?_
    refine g_get (pc1 := 9) dX6_neighboursOf_6 rfl flX6_15 rfl rfl ?_
    refine g_get (pc1 := 12) dX6_neighboursOf_9 rfl flX6_25 rfl rfl ?_
    refine g_icmp_ge (pc1 := 15) (tgt := 41) dX6_neighboursOf_12 rfl (by decide) (fun c => absurd c (fun c => absurd ((nI_leI (a := n) (b := w) (by omega) (by omega)).mp c) (by omega))) (fun _ => ?_)
    refine g_iload_n (i := 1) (pc1 := 16) dX6_neighboursOf_15 rfl rfl rfl ?_
    refine g_iload_n (i := 3) (pc1 := 17) dX6_neighboursOf_16 rfl rfl rfl ?_
    refine g_SN2 (M := mX7_contains) (pc1 := 20) dX6_neighboursOf_17 rfl ⟨rfl, lnX6_31⟩ tmX7_contains (c_contains (bS p) (j := w) (by omega)) (Nat.le_of_ble_eq_true rfl) rfl (Nat.le_of_ble_eq_true rfl) (Nat.le_of_ble_eq_true rfl) ?_
    rintro _ _ ⟨rfl, rfl⟩
    rw [show bt (bS p) w = p w by rw [bt_bS]; simp [show w < 32 by omega]]
    refine g_if_eq (pc1 := 23) (tgt := 35) dX6_neighboursOf_20 rfl (by decide) (fun c1 => ?_) (fun c1 => ?_)
    · rw [bI_eq0] at c1
      refine g_iinc (pc1 := 38) dX6_neighboursOf_35 rfl rfl rfl ?_
      refine g_goto (tgt := 4) dX6_neighboursOf_38 (by decide) ?_
      refine aGo.eq ih ?_ rfl rfl
      show [Value.ref 22, .int (bS p), .int (bS (nbO w A p)), .int (nI w + Int32.ofInt 1)] = _
      have e : nbO (w + 1) A p = nbO w A p := by
        funext c
        show (ex _ w || (p w && A w c)) = _
        rw [c1]; simp [nbO]
      rw [show nI w + Int32.ofInt 1 = nI (w + 1) from nI_1 w, e]
    · rw [bI_ne0] at c1
      refine g_iload_n (i := 2) (pc1 := 24) dX6_neighboursOf_23 rfl rfl rfl ?_
      refine g_aload_n (i := 0) (pc1 := 25) dX6_neighboursOf_24 rfl rfl rfl ?_
      refine g_get (pc1 := 28) dX6_neighboursOf_25 rfl flX6_15 rfl rfl ?_
      refine g_get (pc1 := 31) dX6_neighboursOf_28 rfl flX6_54 rfl rfl ?_
      refine g_iload_n (i := 3) (pc1 := 32) dX6_neighboursOf_31 rfl rfl rfl ?_
      refine g_ialdJ (pc1 := 33) dX6_neighboursOf_32 rfl rfl rfl (by omega) (by decide) ?_
      refine g_ior (pc1 := 34) dX6_neighboursOf_33 rfl ?_
      refine g_istore_n (i := 2) (pc1 := 35) dX6_neighboursOf_34 rfl rfl (Nat.le_of_ble_eq_true rfl) ?_
      refine g_iinc (pc1 := 38) dX6_neighboursOf_35 rfl rfl rfl ?_
      refine g_goto (tgt := 4) dX6_neighboursOf_38 (by decide) ?_
      refine aGo.eq ih ?_ rfl rfl
      show [Value.ref 22, .int (bS p), .int (bS (nbO w A p) ||| nr w), .int (nI w + Int32.ofInt 1)] = _
      have e : (fun i => nbO w A p i || A w i) = nbO (w + 1) A p := by
        funext c
        show _ = (ex _ w || (p w && A w c))
        rw [c1]; rfl
      rw [show nI w + Int32.ofInt 1 = nI (w + 1) from nI_1 w, show nr w = bS (A w) from hg.row (by omega), bS_or, e]
theorem c_bearing (hn : n ≤ 30) {pc : tCol} (hP : pC P pc) {c : Nat} (hc : c < 30) : aRet 1 0 0 mX6_bearing [.ref 22, .int (nI c)] (cp (nI n, nr, tn) K S L1 U L2 L3 C P r) (fun x g => x = some (.int (bS (brg n pc c))) ∧ g = cp (nI n, nr, tn) K S L1 U L2 L3 C P r) := by
  refine aRet.of (by decide) (Nat.le_of_ble_eq_true rfl) (a_ok2 rfl) ?_
  refine g_iconst (v := 0) (pc1 := 1) dX6_bearing_0 rfl (by decide) ?_
  refine g_istore_n (i := 2) (pc1 := 2) dX6_bearing_1 rfl rfl (Nat.le_of_ble_eq_true rfl) ?_
  refine g_iconst (v := 0) (pc1 := 3) dX6_bearing_2 rfl (by decide) ?_
  refine g_istore_n (i := 3) (pc1 := 4) dX6_bearing_3 rfl rfl (Nat.le_of_ble_eq_true rfl) ?_
  have eB : (0 : Int32) = bS (brg 0 pc c) := by rw [bS_0]; exact bS_congr fun i _ => by simp [brg]
  refine aGo.eq (ls' := [.ref 22, .int (nI c), .int (bS (brg 0 pc c)), .int (nI 0)]) ?_ (by rw [← eB]; rfl) rfl rfl
  refine down0 (P := fun w => aGo _ 4 [.ref 22, .int (nI c), .int (bS (brg w pc c)), .int (nI w)] [] (cp (nI n, nr, tn) K S L1 U L2 L3 C P r) 0 0) n ?_ ?_
  · refine g_iload_n (i := 3) (pc1 := 5) dX6_bearing_4 rfl rfl rfl ?_
    refine g_aload_n (i := 0) (pc1 := 6) dX6_bearing_5 rfl rfl rfl ?_
    refine g_get (pc1 := 9) dX6_bearing_6 rfl flX6_15 rfl rfl ?_
    refine g_get (pc1 := 12) dX6_bearing_9 rfl flX6_25 rfl rfl ?_
    refine g_icmp_ge (pc1 := 15) (tgt := 37) dX6_bearing_12 rfl (by decide) (fun _ => ?_) (fun c => absurd (Int32.le_refl _) c)
    refine g_iload_n (i := 2) (pc1 := 38) dX6_bearing_37 rfl rfl rfl ?_
    refine g_iret dX6_bearing_38 rfl rfl (Nat.le_of_ble_eq_true rfl) (Nat.le_of_ble_eq_true rfl) ?_
    exact ⟨rfl, rfl⟩
  · intro w hw ih
    refine g_iload_n (i := 3) (pc1 := 5) dX6_bearing_4 rfl rfl rfl ?_
    refine g_aload_n (i := 0) (pc1 := 6) dX6_bearing_5 rfl rfl rfl ?_
    refine g_get (pc1 := 9) dX6_bearing_6 rfl flX6_15 rfl rfl ?_
    refine g_get (pc1 := 12) dX6_bearing_9 rfl flX6_25 rfl rfl ?_
    refine g_icmp_ge (pc1 := 15) (tgt := 37) dX6_bearing_12 rfl (by decide) (fun c => absurd c (fun c => absurd ((nI_leI (a := n) (b := w) (by omega) (by omega)).mp c) (by omega))) (fun _ => ?_)
    refine g_aload_n (i := 0) (pc1 := 16) dX6_bearing_15 rfl rfl rfl ?_
    refine g_get (pc1 := 19) dX6_bearing_16 rfl flX6_9 rfl rfl ?_
    refine g_iload_n (i := 3) (pc1 := 20) dX6_bearing_19 rfl rfl rfl ?_
    refine g_ialdJ (pc1 := 21) dX6_bearing_20 rfl rfl rfl (by omega) (by decide) ?_
    refine g_iload_n (i := 1) (pc1 := 22) dX6_bearing_21 rfl rfl rfl ?_
    have hiff : P w = nI c ↔ pc w = some c := hP.inj (v := w) (by omega) (o := some c) (fun d h => by cases h; exact hc)
    refine g_icmp_ne (pc1 := 25) (tgt := 31) dX6_bearing_22 rfl (by decide) (fun c1 => ?_) (fun c1 => ?_)
    · refine g_iinc (pc1 := 34) dX6_bearing_31 rfl rfl rfl ?_
      refine g_goto (tgt := 4) dX6_bearing_34 (by decide) ?_
      refine aGo.eq ih ?_ rfl rfl
      show [Value.ref 22, .int (nI c), .int (bS (brg w pc c)), .int (nI w + Int32.ofInt 1)] = _
      rw [show nI w + Int32.ofInt 1 = nI (w + 1) from nI_1 w]
      have e : bS (brg w pc c) = bS (brg (w + 1) pc c) := bS_congr fun i _ => by
        unfold brg
        by_cases hiw : i = w
        · subst hiw; simp; exact fun q => c1 (hiff.mpr q)
        · by_cases h2 : i < w
          · simp [h2, show i < w + 1 by omega]
          · simp [h2, show ¬ i < w + 1 by omega]
      rw [e]
    · refine g_iload_n (i := 2) (pc1 := 26) dX6_bearing_25 rfl rfl rfl ?_
      refine g_iconst (v := 1) (pc1 := 27) dX6_bearing_26 rfl (by decide) ?_
      refine g_iload_n (i := 3) (pc1 := 28) dX6_bearing_27 rfl rfl rfl ?_
      refine g_ishl (pc1 := 29) dX6_bearing_28 rfl ?_
      refine g_ior (pc1 := 30) dX6_bearing_29 rfl ?_
      refine g_istore_n (i := 2) (pc1 := 31) dX6_bearing_30 rfl rfl (Nat.le_of_ble_eq_true rfl) ?_
      refine g_iinc (pc1 := 34) dX6_bearing_31 rfl rfl rfl ?_
      refine g_goto (tgt := 4) dX6_bearing_34 (by decide) ?_
      refine aGo.eq ih ?_ rfl rfl
      show [Value.ref 22, .int (nI c), .int (bS (brg w pc c) ||| (1 : Int32) <<< (nI w &&& 31)), .int (nI w + Int32.ofInt 1)] = _
      rw [show nI w + Int32.ofInt 1 = nI (w + 1) from nI_1 w, bS_bit (by omega), bS_or]
      have e : bS (fun i => brg w pc c i || decide (i = w)) = bS (brg (w + 1) pc c) := bS_congr fun i _ => by
        unfold brg
        by_cases hiw : i = w
        · subst hiw; simp [hiff.mp c1]
        · by_cases h2 : i < w
          · simp [h2, hiw, show i < w + 1 by omega]
          · simp [h2, hiw, show ¬ i < w + 1 by omega]
      rw [e]
theorem c_reach {A : Nat → Nat → Bool} (hg : hG n nr tn A) (hk : Gok n A) {v : Nat} (hv : v < 30) (s : Nat → Bool) : aRet 2 0 0 mX6_reach [.ref 22, .int (nI v), .int (bS s)] (cp (nI n, nr, tn) K S L1 U L2 L3 C P r) (fun x g => x = some (.int (bS (rch n A s v n))) ∧ g = cp (nI n, nr, tn) K S L1 U L2 L3 C P r) := by
  have hn := hk.1
  refine aRet.of (by decide) (Nat.le_of_ble_eq_true rfl) (a_ok2 rfl) ?_
  refine g_iconst (v := 1) (pc1 := 1) dX6_reach_0 rfl (by decide) ?_
  refine g_iload_n (i := 1) (pc1 := 2) dX6_reach_1 rfl rfl rfl ?_
  refine g_ishl (pc1 := 3) dX6_reach_2 rfl ?_
  refine g_istore_n (i := 3) (pc1 := 4) dX6_reach_3 rfl rfl (Nat.le_of_ble_eq_true rfl) ?_
  refine g_iconst (v := 0) (pc1 := 5) dX6_reach_4 rfl (by decide) ?_
  refine g_istore (pc1 := 7) dX6_reach_5 rfl (Nat.le_of_ble_eq_true rfl) ?_
  rw [bS_bit (by omega)]
  refine down0 (P := fun i => aGo _ 7 [.ref 22, .int (nI v), .int (bS s), .int (bS (rch n A s v i)), .int (nI i)] [] (cp (nI n, nr, tn) K S L1 U L2 L3 C P r) 0 0) n ?_ ?_
  · refine g_iload (pc1 := 9) dX6_reach_7 rfl rfl ?_
    refine g_aload_n (i := 0) (pc1 := 10) dX6_reach_9 rfl rfl rfl ?_
    refine g_get (pc1 := 13) dX6_reach_10 rfl flX6_15 rfl rfl ?_
    refine g_get (pc1 := 16) dX6_reach_13 rfl flX6_25 rfl rfl ?_
    refine g_icmp_ge (pc1 := 19) (tgt := 35) dX6_reach_16 rfl (by decide) (fun _ => ?_) (fun c => absurd (Int32.le_refl _) c)
    refine g_iload_n (i := 3) (pc1 := 36) dX6_reach_35 rfl rfl rfl ?_
    refine g_iret dX6_reach_36 rfl rfl (Nat.le_of_ble_eq_true rfl) (Nat.le_of_ble_eq_true rfl) ?_
    exact ⟨rfl, rfl⟩
  · intro i hi ih
    refine g_iload (pc1 := 9) dX6_reach_7 rfl rfl ?_
    refine g_aload_n (i := 0) (pc1 := 10) dX6_reach_9 rfl rfl rfl ?_
    refine g_get (pc1 := 13) dX6_reach_10 rfl flX6_15 rfl rfl ?_
    refine g_get (pc1 := 16) dX6_reach_13 rfl flX6_25 rfl rfl ?_
    refine g_icmp_ge (pc1 := 19) (tgt := 35) dX6_reach_16 rfl (by decide) (fun c => absurd c (fun c => absurd ((nI_leI (a := n) (b := i) (by omega) (by omega)).mp c) (by omega))) (fun _ => ?_)
    refine g_iload_n (i := 3) (pc1 := 20) dX6_reach_19 rfl rfl rfl ?_
    refine g_aload_n (i := 0) (pc1 := 21) dX6_reach_20 rfl rfl rfl ?_
    refine g_iload_n (i := 3) (pc1 := 22) dX6_reach_21 rfl rfl rfl ?_
    refine g_V1 (M := mX6_neighboursOf) (pc1 := 25) dX6_reach_22 rfl lkX6_51 tmX6_neighboursOf rfl (c_neighboursOf n nr tn K S L1 U L2 L3 C P r hg hk (rch n A s v i)) (Nat.le_of_ble_eq_true rfl) rfl (Nat.le_of_ble_eq_true rfl) (Nat.le_of_ble_eq_true rfl) ?_
    rintro _ _ ⟨rfl, rfl⟩
    show aGo _ 25 _ [.int _, .int _] _ _ _
    refine g_iload_n (i := 2) (pc1 := 26) dX6_reach_25 rfl rfl rfl ?_
    refine g_iand (pc1 := 27) dX6_reach_26 rfl ?_
    refine g_ior (pc1 := 28) dX6_reach_27 rfl ?_
    refine g_istore_n (i := 3) (pc1 := 29) dX6_reach_28 rfl rfl (Nat.le_of_ble_eq_true rfl) ?_
    refine g_iinc (pc1 := 32) dX6_reach_29 rfl rfl rfl ?_
    refine g_goto (tgt := 7) dX6_reach_32 (by decide) ?_
    refine aGo.eq ih ?_ rfl rfl
    show [Value.ref 22, .int (nI v), .int (bS s), .int (bS (rch n A s v i) ||| (bS (nbO n A (rch n A s v i)) &&& bS s)), .int (nI i + Int32.ofInt 1)] = _
    rw [show nI i + Int32.ofInt 1 = nI (i + 1) from nI_1 i, bS_and, bS_or]
    rfl
def chP (n : Nat) (A : Nat → Nat → Bool) (pc : tCol) (v c0 c : Nat) : tCol := fun w => if w < n ∧ chS2 n A pc v c0 c w = true then (if pc w = some c0 then some c else some c0) else pc w
set_option maxHeartbeats 1000000 in
theorem c_swapChain {A : Nat → Nat → Bool} (hg : hG n nr tn A) (hk : Gok n A) {pc : tCol} (hP : pC P pc) {v c0 c : Nat} (hv : v < n) (hv0 : pc v = some c0) (hc : c < 30) : aRet 3 0 0 mX6_swapChain [.ref 22, .int (nI v), .int (nI c)] (cp (nI n, nr, tn) K S L1 U L2 L3 C P r) (fun x g => x = some (.int (nI (cnt (chS2 n A pc v c0 c) 32))) ∧ ∃ P' : fI, pC P' (chP n A pc v c0 c) ∧ g = cp (nI n, nr, tn) K S L1 U L2 L3 C P' r) := by
  have hn := hk.1
  have hc0 := (hP v (by omega)).2 c0 hv0
  refine aRet.of (by decide) (Nat.le_of_ble_eq_true rfl) (a_ok2 rfl) ?_
  refine g_aload_n (i := 0) (pc1 := 1) dX6_swapChain_0 rfl rfl rfl ?_
  refine g_get (pc1 := 4) dX6_swapChain_1 rfl flX6_9 rfl rfl ?_
  refine g_iload_n (i := 1) (pc1 := 5) dX6_swapChain_4 rfl rfl rfl ?_
  refine g_ialdJ (pc1 := 6) dX6_swapChain_5 rfl rfl rfl (by omega) (by decide) ?_
  rw [show P v = nI c0 by rw [(hP v (by omega)).1, hv0]; rfl]
  refine g_istore_n (i := 3) (pc1 := 7) dX6_swapChain_6 rfl rfl (Nat.le_of_ble_eq_true rfl) ?_
  refine g_aload_n (i := 0) (pc1 := 8) dX6_swapChain_7 rfl rfl rfl ?_
  refine g_iload_n (i := 1) (pc1 := 9) dX6_swapChain_8 rfl rfl rfl ?_
  refine g_aload_n (i := 0) (pc1 := 10) dX6_swapChain_9 rfl rfl rfl ?_
  refine g_iload_n (i := 3) (pc1 := 11) dX6_swapChain_10 rfl rfl rfl ?_
  refine g_V1 (M := mX6_bearing) (pc1 := 14) dX6_swapChain_11 rfl lkX6_38 tmX6_bearing rfl (c_bearing n nr tn K S L1 U L2 L3 C P r hn hP hc0) (Nat.le_of_ble_eq_true rfl) rfl (Nat.le_of_ble_eq_true rfl) (Nat.le_of_ble_eq_true rfl) ?_
  rintro _ _ ⟨rfl, rfl⟩
  show aGo _ 14 _ [.int _, .int _, .ref 22] _ _ _
  refine g_aload_n (i := 0) (pc1 := 15) dX6_swapChain_14 rfl rfl rfl ?_
  refine g_iload_n (i := 2) (pc1 := 16) dX6_swapChain_15 rfl rfl rfl ?_
  refine g_V1 (M := mX6_bearing) (pc1 := 19) dX6_swapChain_16 rfl lkX6_38 tmX6_bearing rfl (c_bearing n nr tn K S L1 U L2 L3 C P r hn hP hc) (Nat.le_of_ble_eq_true rfl) rfl (Nat.le_of_ble_eq_true rfl) (Nat.le_of_ble_eq_true rfl) ?_
  rintro _ _ ⟨rfl, rfl⟩
  show aGo _ 19 _ [.int _, .int _, .int _, .ref 22] _ _ _
  refine g_ior (pc1 := 20) dX6_swapChain_19 rfl ?_
  rw [bS_or]
  refine g_V2 (M := mX6_reach) (pc1 := 23) dX6_swapChain_20 rfl lkX6_42 tmX6_reach rfl (c_reach n nr tn K S L1 U L2 L3 C P r hg hk (v := v) (by omega) _) (Nat.le_of_ble_eq_true rfl) rfl (Nat.le_of_ble_eq_true rfl) (Nat.le_of_ble_eq_true rfl) ?_
  rintro _ _ ⟨rfl, rfl⟩
  rw [show rch n A (fun i => brg n pc c0 i || brg n pc c i) v n = chS2 n A pc v c0 c from rfl]
  refine g_istore (pc1 := 25) dX6_swapChain_23 rfl (Nat.le_of_ble_eq_true rfl) ?_
  refine g_iconst (v := 0) (pc1 := 26) dX6_swapChain_25 rfl (by decide) ?_
  refine g_istore (pc1 := 28) dX6_swapChain_26 rfl (Nat.le_of_ble_eq_true rfl) ?_
  refine aGo.eq (h' := cp (nI n, nr, tn) K S L1 U L2 L3 C (fun x => if x < 0 ∧ chS2 n A pc v c0 c x = true then (if P x = nI c0 then nI c else nI c0) else P x) r) ?_ rfl rfl (by
    have : (fun x => if x < 0 ∧ chS2 n A pc v c0 c x = true then (if P x = nI c0 then nI c else nI c0) else P x) = P := by funext x; simp
    rw [this])
  refine down0 (P := fun w => aGo _ 28 [.ref 22, .int (nI v), .int (nI c), .int (nI c0), .int (bS (chS2 n A pc v c0 c)), .int (nI w)] [] (cp (nI n, nr, tn) K S L1 U L2 L3 C (fun x => if x < w ∧ chS2 n A pc v c0 c x = true then (if P x = nI c0 then nI c else nI c0) else P x) r) 0 0) n ?_ ?_
  · refine g_iload (pc1 := 30) dX6_swapChain_28 rfl rfl ?_
    refine g_aload_n (i := 0) (pc1 := 31) dX6_swapChain_30 rfl rfl rfl ?_
    refine g_get (pc1 := 34) dX6_swapChain_31 rfl flX6_15 rfl rfl ?_
    refine g_get (pc1 := 37) dX6_swapChain_34 rfl flX6_25 rfl rfl ?_
    refine g_icmp_ge (pc1 := 40) (tgt := 79) dX6_swapChain_37 rfl (by decide) (fun _ => ?_) (fun c => absurd (Int32.le_refl _) c)
    refine g_iload (pc1 := 81) dX6_swapChain_79 rfl rfl ?_
    refine g_S1 (M := mJ6_bitCount_0f7a4) (pc1 := 84) dX6_swapChain_81 rfl lkX6_46 tmJ6_bitCount_0f7a4 (c_bitCount _) (Nat.le_of_ble_eq_true rfl) rfl (Nat.le_of_ble_eq_true rfl) (Nat.le_of_ble_eq_true rfl) ?_
    rintro _ _ ⟨rfl, rfl⟩
    rw [cnt_bS]
    refine g_iret dX6_swapChain_84 rfl rfl (Nat.le_of_ble_eq_true rfl) (Nat.le_of_ble_eq_true rfl) ?_
    refine ⟨rfl, _, fun w hw => ?_, rfl⟩
    have hiff : P w = nI c0 ↔ pc w = some c0 := hP.inj (v := w) hw (o := some c0) (fun d h => by cases h; exact hc0)
    show (if w < n ∧ chS2 n A pc v c0 c w = true then (if P w = nI c0 then nI c else nI c0) else P w) = enO (chP n A pc v c0 c w) ∧ _
    unfold chP
    by_cases h1 : w < n ∧ chS2 n A pc v c0 c w = true
    · rw [if_pos h1, if_pos h1]
      by_cases h2 : pc w = some c0
      · rw [if_pos (hiff.mpr h2), if_pos h2]
        exact ⟨rfl, fun d h => by cases h; exact hc⟩
      · rw [if_neg (fun q => h2 (hiff.mp q)), if_neg h2]
        exact ⟨rfl, fun d h => by cases h; exact hc0⟩
    · rw [if_neg h1, if_neg h1]
      exact hP w hw
  · intro w hw ih
    refine g_iload (pc1 := 30) dX6_swapChain_28 rfl rfl ?_
    refine g_aload_n (i := 0) (pc1 := 31) dX6_swapChain_30 rfl rfl rfl ?_
    refine g_get (pc1 := 34) dX6_swapChain_31 rfl flX6_15 rfl rfl ?_
    refine g_get (pc1 := 37) dX6_swapChain_34 rfl flX6_25 rfl rfl ?_
    refine g_icmp_ge (pc1 := 40) (tgt := 79) dX6_swapChain_37 rfl (by decide) (fun c => absurd c (fun c => absurd ((nI_leI (a := n) (b := w) (by omega) (by omega)).mp c) (by omega))) (fun _ => ?_)
    refine g_iload (pc1 := 42) dX6_swapChain_40 rfl rfl ?_
    refine g_iload (pc1 := 44) dX6_swapChain_42 rfl rfl ?_
    refine g_SN2 (M := mX7_contains) (pc1 := 47) dX6_swapChain_44 rfl ⟨rfl, lnX6_31⟩ tmX7_contains (c_contains (bS (chS2 n A pc v c0 c)) (j := w) (by omega)) (Nat.le_of_ble_eq_true rfl) rfl (Nat.le_of_ble_eq_true rfl) (Nat.le_of_ble_eq_true rfl) ?_
    rintro _ _ ⟨rfl, rfl⟩
    rw [show bt (bS (chS2 n A pc v c0 c)) w = chS2 n A pc v c0 c w by rw [bt_bS]; simp [show w < 32 by omega]]
    have hnx : ∀ f : fI, f = (fun x => if x < w + 1 ∧ chS2 n A pc v c0 c x = true then (if P x = nI c0 then nI c else nI c0) else P x) → aGo (3, 0, 0, mX6_swapChain, none, fun x g => x = some (.int (nI (cnt (chS2 n A pc v c0 c) 32))) ∧ ∃ P' : fI, pC P' (chP n A pc v c0 c) ∧ g = cp (nI n, nr, tn) K S L1 U L2 L3 C P' r) 73 [.ref 22, .int (nI v), .int (nI c), .int (nI c0), .int (bS (chS2 n A pc v c0 c)), .int (nI w)] [] (cp (nI n, nr, tn) K S L1 U L2 L3 C f r) 0 0 := by
      rintro f rfl
      refine g_iinc (pc1 := 76) dX6_swapChain_73 rfl rfl rfl ?_
      refine g_goto (tgt := 28) dX6_swapChain_76 (by decide) ?_
      refine aGo.eq ih ?_ rfl rfl
      show [Value.ref 22, .int (nI v), .int (nI c), .int (nI c0), .int (bS (chS2 n A pc v c0 c)), .int (nI w + Int32.ofInt 1)] = _
      rw [show nI w + Int32.ofInt 1 = nI (w + 1) from nI_1 w]
    refine g_if_eq (pc1 := 50) (tgt := 73) dX6_swapChain_47 rfl (by decide) (fun c1 => ?_) (fun c1 => ?_)
    · rw [bI_eq0] at c1
      refine hnx _ ?_
      funext x
      by_cases hxw : x = w
      · subst hxw; simp [c1]
      · by_cases h6 : x < w
        · simp [h6, show x < w + 1 by omega]
        · simp [h6, show ¬ x < w + 1 by omega]
    · rw [bI_ne0] at c1
      refine g_aload_n (i := 0) (pc1 := 51) dX6_swapChain_50 rfl rfl rfl ?_
      refine g_get (pc1 := 54) dX6_swapChain_51 rfl flX6_9 rfl rfl ?_
      refine g_iload (pc1 := 56) dX6_swapChain_54 rfl rfl ?_
      refine g_aload_n (i := 0) (pc1 := 57) dX6_swapChain_56 rfl rfl rfl ?_
      refine g_get (pc1 := 60) dX6_swapChain_57 rfl flX6_9 rfl rfl ?_
      refine g_iload (pc1 := 62) dX6_swapChain_60 rfl rfl ?_
      refine g_ialdJ (pc1 := 63) dX6_swapChain_62 rfl rfl rfl (by omega) (by decide) ?_
      refine g_iload_n (i := 3) (pc1 := 64) dX6_swapChain_63 rfl rfl rfl ?_
      have e0 : (if w < w ∧ chS2 n A pc v c0 c w = true then (if P w = nI c0 then nI c else nI c0) else P w) = P w := by simp
      rw [e0]
      have last : ∀ y : Int32, y = (if P w = nI c0 then nI c else nI c0) → (upd (fun x => if x < w ∧ chS2 n A pc v c0 c x = true then (if P x = nI c0 then nI c else nI c0) else P x) w y) = (fun x => if x < w + 1 ∧ chS2 n A pc v c0 c x = true then (if P x = nI c0 then nI c else nI c0) else P x) := by
        rintro y rfl
        funext x
        by_cases hxw : x = w
        · subst hxw; simp [upd, c1]
        · by_cases h6 : x < w
          · simp [upd, hxw, h6, show x < w + 1 by omega]
          · simp [upd, hxw, h6, show ¬ x < w + 1 by omega]
      refine g_icmp_ne (pc1 := 67) (tgt := 71) dX6_swapChain_64 rfl (by decide) (fun c2 => ?_) (fun c2 => ?_)
      · refine g_iload_n (i := 3) (pc1 := 72) dX6_swapChain_71 rfl rfl rfl ?_
        refine g_iastJ (pc1 := 73) dX6_swapChain_72 rfl rfl rfl (by omega) (by decide) ?_
        exact hnx (upd (fun x => if x < w ∧ chS2 n A pc v c0 c x = true then (if P x = nI c0 then nI c else nI c0) else P x) w (nI c0)) (last _ (by rw [if_neg c2]))
      · refine g_iload_n (i := 2) (pc1 := 68) dX6_swapChain_67 rfl rfl rfl ?_
        refine g_goto (tgt := 72) dX6_swapChain_68 (by decide) ?_
        refine g_iastJ (pc1 := 73) dX6_swapChain_72 rfl rfl rfl (by omega) (by decide) ?_
        exact hnx (upd (fun x => if x < w ∧ chS2 n A pc v c0 c x = true then (if P x = nI c0 then nI c else nI c0) else P x) w (nI c)) (last _ (by rw [if_pos c2]))
set_option maxHeartbeats 1000000 in
theorem c_clashingEdges {A : Nat → Nat → Bool} (hg : hG n nr tn A) (hk : Gok n A) {pc : tCol} (hP : pC P pc) : aRet 2 0 0 mX6_clashingEdges [.ref 22] (cp (nI n, nr, tn) K S L1 U L2 L3 C P r) (fun x g => x = some (.int (nI (clT n A pc))) ∧ g = cp (nI n, nr, tn) K S L1 U L2 L3 C P r) := by
  have hn := hk.1
  refine aRet.of (by decide) (Nat.le_of_ble_eq_true rfl) (a_ok2 rfl) ?_
  refine g_iconst (v := 0) (pc1 := 1) dX6_clashingEdges_0 rfl (by decide) ?_
  refine g_istore_n (i := 1) (pc1 := 2) dX6_clashingEdges_1 rfl rfl (Nat.le_of_ble_eq_true rfl) ?_
  refine g_iconst (v := 0) (pc1 := 3) dX6_clashingEdges_2 rfl (by decide) ?_
  refine g_istore_n (i := 2) (pc1 := 4) dX6_clashingEdges_3 rfl rfl (Nat.le_of_ble_eq_true rfl) ?_
  refine down0 (P := fun a => aGo _ 4 [.ref 22, .int (nI (sumN (fun a => cnt (clQ A pc a) n) a)), .int (nI a), .null] [] (cp (nI n, nr, tn) K S L1 U L2 L3 C P r) 0 0) n ?_ ?_
  · refine g_iload_n (i := 2) (pc1 := 5) dX6_clashingEdges_4 rfl rfl rfl ?_
    refine g_aload_n (i := 0) (pc1 := 6) dX6_clashingEdges_5 rfl rfl rfl ?_
    refine g_get (pc1 := 9) dX6_clashingEdges_6 rfl flX6_15 rfl rfl ?_
    refine g_get (pc1 := 12) dX6_clashingEdges_9 rfl flX6_25 rfl rfl ?_
    refine g_icmp_ge (pc1 := 15) (tgt := 82) dX6_clashingEdges_12 rfl (by decide) (fun _ => ?_) (fun c => absurd (Int32.le_refl _) c)
    refine g_iload_n (i := 1) (pc1 := 83) dX6_clashingEdges_82 rfl rfl rfl ?_
    refine g_iret dX6_clashingEdges_83 rfl rfl (Nat.le_of_ble_eq_true rfl) (Nat.le_of_ble_eq_true rfl) ?_
    exact ⟨rfl, rfl⟩
  · intro a ha ih
    refine g_iload_n (i := 2) (pc1 := 5) dX6_clashingEdges_4 rfl rfl rfl ?_
    refine g_aload_n (i := 0) (pc1 := 6) dX6_clashingEdges_5 rfl rfl rfl ?_
    refine g_get (pc1 := 9) dX6_clashingEdges_6 rfl flX6_15 rfl rfl ?_
    refine g_get (pc1 := 12) dX6_clashingEdges_9 rfl flX6_25 rfl rfl ?_
    refine g_icmp_ge (pc1 := 15) (tgt := 82) dX6_clashingEdges_12 rfl (by decide) (fun c => absurd c (fun c => absurd ((nI_leI (a := n) (b := a) (by omega) (by omega)).mp c) (by omega))) (fun _ => ?_)
    refine g_iload_n (i := 2) (pc1 := 16) dX6_clashingEdges_15 rfl rfl rfl ?_
    refine g_iconst (v := 1) (pc1 := 17) dX6_clashingEdges_16 rfl (by decide) ?_
    refine g_iadd (pc1 := 18) dX6_clashingEdges_17 rfl ?_
    refine g_istore_n (i := 3) (pc1 := 19) dX6_clashingEdges_18 rfl rfl (Nat.le_of_ble_eq_true rfl) ?_
    have key : ∀ b, b ≤ n → a + 1 ≤ b → aGo (2, 0, 0, mX6_clashingEdges, none, fun x g => x = some (.int (nI (clT n A pc))) ∧ g = cp (nI n, nr, tn) K S L1 U L2 L3 C P r) 19 [.ref 22, .int (nI (sumN (fun a => cnt (clQ A pc a) n) a + cnt (clQ A pc a) b)), .int (nI a), .int (nI b)] [] (cp (nI n, nr, tn) K S L1 U L2 L3 C P r) 0 0 := by
      refine down (P := fun b => a + 1 ≤ b → aGo _ 19 [.ref 22, .int (nI (sumN (fun a => cnt (clQ A pc a) n) a + cnt (clQ A pc a) b)), .int (nI a), .int (nI b)] [] (cp (nI n, nr, tn) K S L1 U L2 L3 C P r) 0 0) ?_ ?_
      · intro _
        refine g_iload_n (i := 3) (pc1 := 20) dX6_clashingEdges_19 rfl rfl rfl ?_
        refine g_aload_n (i := 0) (pc1 := 21) dX6_clashingEdges_20 rfl rfl rfl ?_
        refine g_get (pc1 := 24) dX6_clashingEdges_21 rfl flX6_15 rfl rfl ?_
        refine g_get (pc1 := 27) dX6_clashingEdges_24 rfl flX6_25 rfl rfl ?_
        refine g_icmp_ge (pc1 := 30) (tgt := 76) dX6_clashingEdges_27 rfl (by decide) (fun _ => ?_) (fun c => absurd (Int32.le_refl _) c)
        refine g_iinc (pc1 := 79) dX6_clashingEdges_76 rfl rfl rfl ?_
        refine g_goto (tgt := 4) dX6_clashingEdges_79 (by decide) ?_
        refine aGo.forget 3 ?_
        refine aGo.eq ih ?_ rfl rfl
        show [Value.ref 22, .int (nI (sumN (fun a => cnt (clQ A pc a) n) a + cnt (clQ A pc a) n)), .int (nI a + Int32.ofInt 1), .null] = _
        rw [show nI a + Int32.ofInt 1 = nI (a + 1) from nI_1 a]
        rfl
      · intro b hb ih2 hab
        have hq : clQ A pc a b = (A a b && ((pc a).isSome && decide (pc a = pc b))) := by unfold clQ; rw [decide_eq_true (show a < b by omega)]; rfl
        have h0 : clQ A pc a b = false → aGo (2, 0, 0, mX6_clashingEdges, none, fun x g => x = some (.int (nI (clT n A pc))) ∧ g = cp (nI n, nr, tn) K S L1 U L2 L3 C P r) 70 [.ref 22, .int (nI (sumN (fun a => cnt (clQ A pc a) n) a + cnt (clQ A pc a) b)), .int (nI a), .int (nI b)] [] (cp (nI n, nr, tn) K S L1 U L2 L3 C P r) 0 0 := by
          intro h1
          refine g_iinc (pc1 := 73) dX6_clashingEdges_70 rfl rfl rfl ?_
          refine g_goto (tgt := 19) dX6_clashingEdges_73 (by decide) ?_
          refine aGo.eq (ih2 (by omega)) ?_ rfl rfl
          show [Value.ref 22, .int (nI (sumN (fun a => cnt (clQ A pc a) n) a + cnt (clQ A pc a) b)), .int (nI a), .int (nI b + Int32.ofInt 1)] = _
          have e : cnt (clQ A pc a) (b + 1) = cnt (clQ A pc a) b := by
            show cnt _ b + (if clQ A pc a b then 1 else 0) = _
            rw [h1]; rfl
          rw [show nI b + Int32.ofInt 1 = nI (b + 1) from nI_1 b, e]
        refine g_iload_n (i := 3) (pc1 := 20) dX6_clashingEdges_19 rfl rfl rfl ?_
        refine g_aload_n (i := 0) (pc1 := 21) dX6_clashingEdges_20 rfl rfl rfl ?_
        refine g_get (pc1 := 24) dX6_clashingEdges_21 rfl flX6_15 rfl rfl ?_
        refine g_get (pc1 := 27) dX6_clashingEdges_24 rfl flX6_25 rfl rfl ?_
        refine g_icmp_ge (pc1 := 30) (tgt := 76) dX6_clashingEdges_27 rfl (by decide) (fun c => absurd c (fun c => absurd ((nI_leI (a := n) (b := b) (by omega) (by omega)).mp c) (by omega))) (fun _ => ?_)
        refine g_aload_n (i := 0) (pc1 := 31) dX6_clashingEdges_30 rfl rfl rfl ?_
        refine g_get (pc1 := 34) dX6_clashingEdges_31 rfl flX6_15 rfl rfl ?_
        refine g_iload_n (i := 2) (pc1 := 35) dX6_clashingEdges_34 rfl rfl rfl ?_
        refine g_iload_n (i := 3) (pc1 := 36) dX6_clashingEdges_35 rfl rfl rfl ?_
        refine g_V2 (M := mX2_joined) (pc1 := 39) dX6_clashingEdges_36 rfl lkX6_35 tmX2_joined rfl (c_joined (nI n, nr, tn) K S L1 U L2 L3 C P r hg (a := a) (b := b) (by omega) (by omega)) (Nat.le_of_ble_eq_true rfl) rfl (Nat.le_of_ble_eq_true rfl) (Nat.le_of_ble_eq_true rfl) ?_
        rintro _ _ ⟨rfl, rfl⟩
        refine g_if_eq (pc1 := 42) (tgt := 70) dX6_clashingEdges_39 rfl (by decide) (fun c1 => ?_) (fun c1 => ?_)
        · rw [bI_eq0] at c1
          exact h0 (by rw [hq, c1]; rfl)
        · rw [bI_ne0] at c1
          refine g_aload_n (i := 0) (pc1 := 43) dX6_clashingEdges_42 rfl rfl rfl ?_
          refine g_get (pc1 := 46) dX6_clashingEdges_43 rfl flX6_9 rfl rfl ?_
          refine g_iload_n (i := 2) (pc1 := 47) dX6_clashingEdges_46 rfl rfl rfl ?_
          refine g_ialdJ (pc1 := 48) dX6_clashingEdges_47 rfl rfl rfl (by omega) (by decide) ?_
          refine g_iconst (v := (-1)) (pc1 := 49) dX6_clashingEdges_48 rfl (by decide) ?_
          have hno := hP.inj (v := a) (by omega) (o := none) (fun c h => by cases h)
          refine g_icmp_eq (pc1 := 52) (tgt := 70) dX6_clashingEdges_49 rfl (by decide) (fun c2 => ?_) (fun c2 => ?_)
          · have h2 := hno.mp c2
            exact h0 (by rw [hq, h2]; simp)
          · have h2 : (pc a).isSome = true := by
              cases h3 : pc a with
              | none => exact absurd (hno.mpr h3) c2
              | some d => rfl
            refine g_aload_n (i := 0) (pc1 := 53) dX6_clashingEdges_52 rfl rfl rfl ?_
            refine g_get (pc1 := 56) dX6_clashingEdges_53 rfl flX6_9 rfl rfl ?_
            refine g_iload_n (i := 2) (pc1 := 57) dX6_clashingEdges_56 rfl rfl rfl ?_
            refine g_ialdJ (pc1 := 58) dX6_clashingEdges_57 rfl rfl rfl (by omega) (by decide) ?_
            refine g_aload_n (i := 0) (pc1 := 59) dX6_clashingEdges_58 rfl rfl rfl ?_
            refine g_get (pc1 := 62) dX6_clashingEdges_59 rfl flX6_9 rfl rfl ?_
            refine g_iload_n (i := 3) (pc1 := 63) dX6_clashingEdges_62 rfl rfl rfl ?_
            refine g_ialdJ (pc1 := 64) dX6_clashingEdges_63 rfl rfl rfl (by omega) (by decide) ?_
            have hab2 : P a = P b ↔ pc a = pc b := by rw [(hP b (by omega)).1]; exact hP.inj (v := a) (by omega) (hP b (by omega)).2
            refine g_icmp_ne (pc1 := 67) (tgt := 70) dX6_clashingEdges_64 rfl (by decide) (fun c3 => ?_) (fun c3 => ?_)
            · exact h0 (by rw [hq, decide_eq_false (fun q => c3 (hab2.mpr q))]; simp)
            · refine g_iinc (pc1 := 70) dX6_clashingEdges_67 rfl rfl rfl ?_
              refine g_iinc (pc1 := 73) dX6_clashingEdges_70 rfl rfl rfl ?_
              refine g_goto (tgt := 19) dX6_clashingEdges_73 (by decide) ?_
              refine aGo.eq (ih2 (by omega)) ?_ rfl rfl
              show [Value.ref 22, .int (nI (sumN (fun a => cnt (clQ A pc a) n) a + cnt (clQ A pc a) b) + Int32.ofInt 1), .int (nI a), .int (nI b + Int32.ofInt 1)] = _
              have e : cnt (clQ A pc a) (b + 1) = cnt (clQ A pc a) b + 1 := by
                show cnt _ b + (if clQ A pc a b then 1 else 0) = _
                rw [hq, c1, h2, decide_eq_true (hab2.mp c3)]; rfl
              rw [show nI b + Int32.ofInt 1 = nI (b + 1) from nI_1 b, show ∀ z, nI z + Int32.ofInt 1 = nI (z + 1) from nI_1, e, Nat.add_assoc]
    refine aGo.eq (key (a + 1) (by omega) (Nat.le_refl _)) ?_ rfl rfl
    show [Value.ref 22, .int (nI (sumN (fun a => cnt (clQ A pc a) n) a)), .int (nI a), .int (nI a + 1)] = _
    have e : cnt (clQ A pc a) (a + 1) = 0 := cnt_zero fun i hi => by unfold clQ; rw [decide_eq_false (by omega)]; rfl
    rw [nI_1, e]
    rfl
end
