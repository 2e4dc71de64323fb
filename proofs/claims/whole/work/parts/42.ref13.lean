/-! ===== the reference: the checker's steps ===== -/
def okv (n : Nat) (A : Nat → Nat → Bool) (col : tCol) (p : Nat → Bool) (v : Nat) : Bool := decide (v < n) && ((col v).isNone && nrA n A v (fun j => p j && !decide (j = v)))
def gdS (n : Nat) (A : Nat → Nat → Bool) (col : tCol) (p : Nat → Bool) (i : Nat) : Bool := ex p 32 && !ex (fun v => p v && !okv n A col p v) i
theorem clo_eq {n : Nat} {A : Nat → Nat → Bool} (hk : Gok n A) (col : tCol) (k : Nat) (p : Nat → Bool) : cloS n A col k p = (gdS n A col p 32 && decide (cnt (frS n A col k p) 30 < cnt p 32)) := by
  have hn := hk.1
  have key : (!ex (fun i => p i && !brP n col i) 32 && !ex (fun v => p v && ex (fun i => (p i && !A v i) != decide (i = v)) 32) n) = !ex (fun v => p v && !okv n A col p v) 32 := by
    have e : ex (fun v => p v && !okv n A col p v) 32 = true ↔ (ex (fun i => p i && !brP n col i) 32 = true ∨ ex (fun v => p v && ex (fun i => (p i && !A v i) != decide (i = v)) 32) n = true) := by
      constructor
      · intro h
        by_cases hb : ex (fun i => p i && !brP n col i) 32 = true
        · exact Or.inl hb
        · right
          have hb' : ∀ i, i < 32 → p i = true → brP n col i = true := by
            intro i hi hp
            have := ex_false.mp (show ex (fun i => p i && !brP n col i) 32 = false by simpa using hb) i hi
            rw [hp] at this
            simpa using this
          obtain ⟨v, hv, h1⟩ := ex_iff.mp h
          simp only [Bool.and_eq_true, Bool.not_eq_true'] at h1
          obtain ⟨h1, h2⟩ := h1
          have hbv := hb' v hv h1
          unfold brP at hbv
          simp only [Bool.and_eq_true, decide_eq_true_eq] at hbv
          unfold okv at h2
          rw [decide_eq_true hbv.1, hbv.2] at h2
          simp only [Bool.true_and] at h2
          unfold nrA at h2
          simp only [Bool.not_eq_false'] at h2
          obtain ⟨w, hw, h3⟩ := ex_iff.mp h2
          simp only [Bool.and_eq_true, Bool.not_eq_true', decide_eq_false_iff_not] at h3
          refine ex_iff.mpr ⟨v, hbv.1, ?_⟩
          rw [h1, Bool.true_and]
          refine ex_iff.mpr ⟨w, by omega, ?_⟩
          rw [h3.1.1, h3.2, decide_eq_false h3.1.2]
          rfl
      · rintro (h | h)
        · obtain ⟨v, hv, h1⟩ := ex_iff.mp h
          simp only [Bool.and_eq_true, Bool.not_eq_true'] at h1
          refine ex_iff.mpr ⟨v, hv, ?_⟩
          rw [h1.1]
          have h2 := h1.2
          unfold brP at h2
          unfold okv
          cases ha : decide (v < n) with
          | false => rfl
          | true => rw [ha] at h2; simp only [Bool.true_and] at h2; rw [h2]; rfl
        · obtain ⟨v, hv, h1⟩ := ex_iff.mp h
          simp only [Bool.and_eq_true] at h1
          obtain ⟨i, hi, h2⟩ := ex_iff.mp h1.2
          by_cases hiv : i = v
          · subst hiv
            rw [h1.1, hk.2.2.1] at h2
            simp at h2
          · rw [decide_eq_false hiv] at h2
            rw [Bool.bne_false, Bool.and_eq_true, Bool.not_eq_true'] at h2
            by_cases hin : i < n
            · refine ex_iff.mpr ⟨v, by omega, ?_⟩
              rw [h1.1, Bool.true_and]
              unfold okv
              have : nrA n A v (fun j => p j && !decide (j = v)) = false := by
                unfold nrA
                rw [show ex (fun w => (p w && !decide (w = v)) && !A v w) n = true from ex_iff.mpr ⟨i, hin, by rw [h2.1, h2.2, decide_eq_false hiv]; rfl⟩]
                rfl
              rw [this]; simp
            · refine ex_iff.mpr ⟨i, hi, ?_⟩
              rw [h2.1]
              unfold okv
              rw [decide_eq_false hin]; rfl
    cases h1 : ex (fun v => p v && !okv n A col p v) 32 with
    | true =>
      rcases e.mp h1 with h2 | h2 <;> rw [h2] <;> simp
    | false =>
      cases h2 : ex (fun i => p i && !brP n col i) 32 with
      | true => rw [e.mpr (Or.inl h2)] at h1; cases h1
      | false =>
        cases h3 : ex (fun v => p v && ex (fun i => (p i && !A v i) != decide (i = v)) 32) n with
        | true => rw [e.mpr (Or.inr h3)] at h1; cases h1
        | false => rfl
  unfold cloS gdS
  rw [← key]
  simp only [Bool.and_assoc]
theorem bS_bt (s : Int32) : s = bS (bt s) := bS_eq fun _ _ => rfl
section
variable (x : Nat → aC) (n : Nat) (nr ot : fI) (cf sf : fI) (F : tF) (W L T : tW) (V : tM) (P : fI)
set_option maxHeartbeats 1000000 in
theorem r_closes {A : Nat → Nat → Bool} (hg : rG (nI n, nr, ot) n A) (hk : Gok n A) {col : tCol} (hc : rK cf col) (h30 : c30 col) {k : Nat} (hk30 : k ≤ 30) (p : Nat → Bool) : aRet 3 0 0 mX8_closes [.ref 24, .int (bS p), .int (nI k)] (rp x (nI n, nr, ot) (cf, sf) F W L T V P) (fun w g => w = some (.int (bI (cloS n A col k p))) ∧ g = rp x (nI n, nr, ot) (cf, sf) F W L T V P) := by
  have hn := hk.1
  rw [clo_eq hk]
  refine aRet.of (by decide) (Nat.le_of_ble_eq_true rfl) (a_ok2 rfl) ?_
  refine g_iload_n (i := 1) (pc1 := 1) dX8_closes_0 rfl rfl rfl ?_
  have key : aGo (3, 0, 0, mX8_closes, none, fun w g => w = some (.int (bI (gdS n A col p 32 && decide (cnt (frS n A col k p) 30 < cnt p 32)))) ∧ g = rp x (nI n, nr, ot) (cf, sf) F W L T V P) 13 [.ref 24, .int (bS p), .int (nI k), .int (bI (gdS n A col p 0)), .int (nI 0)] [] (rp x (nI n, nr, ot) (cf, sf) F W L T V P) 0 0 := by
    refine down0 (P := fun i => aGo _ 13 [.ref 24, .int (bS p), .int (nI k), .int (bI (gdS n A col p i)), .int (nI i)] [] (rp x (nI n, nr, ot) (cf, sf) F W L T V P) 0 0) 32 ?_ ?_
    · refine g_iload (pc1 := 15) dX8_closes_13 rfl rfl ?_
      refine g_bipush (v := 32) (pc1 := 17) dX8_closes_15 rfl (by decide) ?_
      refine g_icmp_ge (pc1 := 20) (tgt := 82) dX8_closes_17 rfl (by decide) (fun _ => ?_) (fun hbr9 => absurd (by decide) hbr9)
      refine g_iload_n (i := 3) (pc1 := 83) dX8_closes_82 rfl rfl rfl ?_
      refine g_if_eq (pc1 := 86) (tgt := 103) dX8_closes_83 rfl (by decide) (fun c1 => ?_) (fun c1 => ?_)
      · rw [bI_eq0] at c1
        refine g_iconst (v := 0) (pc1 := 104) dX8_closes_103 rfl (by decide) ?_
        refine g_iret dX8_closes_104 rfl (bI_nar false) (Nat.le_of_ble_eq_true rfl) (Nat.le_of_ble_eq_true rfl) ?_
        exact ⟨by rw [c1]; rfl, rfl⟩
      · rw [bI_ne0] at c1
        have q1 := cnt_le (frS n A col k p) 30
        have q2 := cnt_le p 32
        refine g_aload_n (i := 0) (pc1 := 87) dX8_closes_86 rfl rfl rfl ?_
        refine g_iload_n (i := 1) (pc1 := 88) dX8_closes_87 rfl rfl rfl ?_
        refine g_iload_n (i := 2) (pc1 := 89) dX8_closes_88 rfl rfl rfl ?_
        refine g_V2 (M := mX8_freeFor) (pc1 := 92) dX8_closes_89 rfl lkX8_103 tmX8_freeFor rfl (r_freeFor x n nr ot cf sf F W L T V P hg hn hc h30 p hk30) (Nat.le_of_ble_eq_true rfl) rfl (Nat.le_of_ble_eq_true rfl) (Nat.le_of_ble_eq_true rfl) ?_
        rintro _ _ ⟨rfl, rfl⟩
        refine g_iload_n (i := 1) (pc1 := 93) dX8_closes_92 rfl rfl rfl ?_
        refine g_S1 (M := mX8_size) (pc1 := 96) dX8_closes_93 rfl lkX8_106 tmX8_size (r_size p) (Nat.le_of_ble_eq_true rfl) rfl (Nat.le_of_ble_eq_true rfl) (Nat.le_of_ble_eq_true rfl) ?_
        rintro _ _ ⟨rfl, rfl⟩
        show aGo _ 96 _ [.int (nI (cnt p 32)), .int (nI (cnt (frS n A col k p) 30))] _ _ _
        refine g_icmp_ge (pc1 := 99) (tgt := 103) dX8_closes_96 rfl (by decide) (fun c2 => ?_) (fun c2 => ?_)
        · have : ¬ cnt (frS n A col k p) 30 < cnt p 32 := by
            have := (nI_leI (a := cnt p 32) (b := cnt (frS n A col k p) 30) (by omega) (by omega)).mp c2
            omega
          refine g_iconst (v := 0) (pc1 := 104) dX8_closes_103 rfl (by decide) ?_
          refine g_iret dX8_closes_104 rfl (bI_nar false) (Nat.le_of_ble_eq_true rfl) (Nat.le_of_ble_eq_true rfl) ?_
          exact ⟨by rw [c1, decide_eq_false this]; rfl, rfl⟩
        · have : cnt (frS n A col k p) 30 < cnt p 32 := by
            have : ¬ cnt p 32 ≤ cnt (frS n A col k p) 30 := fun q => c2 ((nI_leI (a := cnt p 32) (b := cnt (frS n A col k p) 30) (by omega) (by omega)).mpr q)
            omega
          refine g_iconst (v := 1) (pc1 := 100) dX8_closes_99 rfl (by decide) ?_
          refine g_goto (tgt := 104) dX8_closes_100 (by decide) ?_
          refine g_iret dX8_closes_104 rfl (bI_nar true) (Nat.le_of_ble_eq_true rfl) (Nat.le_of_ble_eq_true rfl) ?_
          exact ⟨by rw [c1, decide_eq_true this]; rfl, rfl⟩
    · intro i hi ih
      have e0 : gdS n A col p (i + 1) = (gdS n A col p i && (!p i || okv n A col p i)) := by
        show (ex p 32 && !(ex (fun v => p v && !okv n A col p v) i || (p i && !okv n A col p i))) = _
        unfold gdS
        cases ex p 32 <;> cases ex (fun v => p v && !okv n A col p v) i <;> cases p i <;> cases okv n A col p i <;> rfl
      have fin : ∀ y : Bool, gdS n A col p (i + 1) = y → aGo (3, 0, 0, mX8_closes, none, fun w g => w = some (.int (bI (gdS n A col p 32 && decide (cnt (frS n A col k p) 30 < cnt p 32)))) ∧ g = rp x (nI n, nr, ot) (cf, sf) F W L T V P) 76 [.ref 24, .int (bS p), .int (nI k), .int (bI y), .int (nI i)] [] (rp x (nI n, nr, ot) (cf, sf) F W L T V P) 0 0 := by
        intro y hy
        refine g_iinc (pc1 := 79) dX8_closes_76 rfl rfl rfl ?_
        refine g_goto (tgt := 13) dX8_closes_79 (by decide) ?_
        refine aGo.eq ih ?_ rfl rfl
        show [Value.ref 24, .int (bS p), .int (nI k), .int (bI y), .int (nI i + Int32.ofInt 1)] = _
        rw [show nI i + Int32.ofInt 1 = nI (i + 1) from nI_1 i, hy]
      refine g_iload (pc1 := 15) dX8_closes_13 rfl rfl ?_
      refine g_bipush (v := 32) (pc1 := 17) dX8_closes_15 rfl (by decide) ?_
      refine g_icmp_ge (pc1 := 20) (tgt := 82) dX8_closes_17 rfl (by decide) (fun hbr9 => absurd hbr9 (fun c => absurd ((nI_leI (a := 32) (b := i) (by omega) (by omega)).mp c) (by omega))) (fun _ => ?_)
      refine g_iload_n (i := 1) (pc1 := 21) dX8_closes_20 rfl rfl rfl ?_
      refine g_iload (pc1 := 23) dX8_closes_21 rfl rfl ?_
      refine g_ishr (pc1 := 24) dX8_closes_23 rfl ?_
      refine g_iconst (v := 1) (pc1 := 25) dX8_closes_24 rfl (by decide) ?_
      refine g_iand (pc1 := 26) dX8_closes_25 rfl ?_
      refine g_iconst (v := 1) (pc1 := 27) dX8_closes_26 rfl (by decide) ?_
      rw [bt_test _ (by omega), bt_bS, decide_eq_true (show i < 32 by omega), Bool.true_and]
      refine g_icmp_ne (pc1 := 30) (tgt := 76) dX8_closes_27 rfl (by decide) (fun c1 => ?_) (fun c1 => ?_)
      · have hp : p i = false := by
          cases hx : p i with
          | false => rfl
          | true => rw [hx] at c1; exact absurd rfl c1
        exact fin _ (by rw [e0, hp]; simp)
      · have hp : p i = true := (bI_eq1 _).mp c1
        have e1 : gdS n A col p (i + 1) = (gdS n A col p i && okv n A col p i) := by rw [e0, hp]; rfl
        refine g_iload_n (i := 3) (pc1 := 31) dX8_closes_30 rfl rfl rfl ?_
        refine g_if_eq (pc1 := 34) (tgt := 74) dX8_closes_31 rfl (by decide) (fun c2 => ?_) (fun c2 => ?_)
        · rw [bI_eq0] at c2
          refine g_iconst (v := 0) (pc1 := 75) dX8_closes_74 rfl (by decide) ?_
          refine g_istore_n (i := 3) (pc1 := 76) dX8_closes_75 rfl rfl (Nat.le_of_ble_eq_true rfl) ?_
          exact fin false (by rw [e1, c2]; rfl)
        · rw [bI_ne0] at c2
          refine g_iload (pc1 := 36) dX8_closes_34 rfl rfl ?_
          refine g_aload_n (i := 0) (pc1 := 37) dX8_closes_36 rfl rfl rfl ?_
          refine g_get (pc1 := 40) dX8_closes_37 rfl flX8_50 rfl rfl ?_
          refine g_icmp_ge (pc1 := 43) (tgt := 74) dX8_closes_40 rfl (by decide) (fun c3 => ?_) (fun c3 => ?_)
          · have h3 : ¬ i < n := by
              have := (nI_leI (a := n) (b := i) (by omega) (by omega)).mp c3
              omega
            refine g_iconst (v := 0) (pc1 := 75) dX8_closes_74 rfl (by decide) ?_
            refine g_istore_n (i := 3) (pc1 := 76) dX8_closes_75 rfl rfl (Nat.le_of_ble_eq_true rfl) ?_
            exact fin false (by rw [e1, c2]; unfold okv; rw [decide_eq_false h3]; rfl)
          · have h3 : i < n := by
              have : ¬ n ≤ i := fun q => c3 ((nI_leI (a := n) (b := i) (by omega) (by omega)).mpr q)
              omega
            refine g_aload_n (i := 0) (pc1 := 44) dX8_closes_43 rfl rfl rfl ?_
            refine g_get (pc1 := 47) dX8_closes_44 rfl flX8_16 rfl rfl ?_
            refine g_iload (pc1 := 49) dX8_closes_47 rfl rfl ?_
            refine g_ialdJ (pc1 := 50) dX8_closes_49 rfl rfl rfl (by omega) (by decide) ?_
            rw [show (cf, sf).1 i = enO (col i) from hc i (by omega)]
            have hneg := enO_neg (o := col i) (fun c q => h30 i c q)
            refine g_if_ge (pc1 := 53) (tgt := 74) dX8_closes_50 rfl (by decide) (fun c4 => ?_) (fun c4 => ?_)
            · have h4 : (col i).isNone = false := by
                cases hx : col i with
                | none => exact absurd (hneg.mpr hx) (Int32.not_lt.mpr c4)
                | some c => rfl
              refine g_iconst (v := 0) (pc1 := 75) dX8_closes_74 rfl (by decide) ?_
              refine g_istore_n (i := 3) (pc1 := 76) dX8_closes_75 rfl rfl (Nat.le_of_ble_eq_true rfl) ?_
              exact fin false (by rw [e1, c2]; unfold okv; rw [h4]; simp)
            · have h4 : (col i).isNone = true := by rw [hneg.mp (Int32.not_le.mp c4)]; rfl
              refine g_aload_n (i := 0) (pc1 := 54) dX8_closes_53 rfl rfl rfl ?_
              refine g_iload (pc1 := 56) dX8_closes_54 rfl rfl ?_
              refine g_iload_n (i := 1) (pc1 := 57) dX8_closes_56 rfl rfl rfl ?_
              refine g_iconst (v := 1) (pc1 := 58) dX8_closes_57 rfl (by decide) ?_
              refine g_iload (pc1 := 60) dX8_closes_58 rfl rfl ?_
              refine g_ishl (pc1 := 61) dX8_closes_60 rfl ?_
              refine g_iconst (v := (-1)) (pc1 := 62) dX8_closes_61 rfl (by decide) ?_
              refine g_ixor (pc1 := 63) dX8_closes_62 rfl ?_
              rw [bS_bit (j := i) (by omega), bS_not]
              refine g_iand (pc1 := 64) dX8_closes_63 rfl ?_
              rw [bS_and]
              refine g_V2 (M := mX8_isNearAll) (pc1 := 67) dX8_closes_64 rfl lkX8_100 tmX8_isNearAll rfl (r_isNearAll x n nr ot cf sf F W L T V P hg hn (v := i) (by omega) (fun j => p j && !decide (j = i))) (Nat.le_of_ble_eq_true rfl) rfl (Nat.le_of_ble_eq_true rfl) (Nat.le_of_ble_eq_true rfl) ?_
              rintro _ _ ⟨rfl, rfl⟩
              refine g_if_eq (pc1 := 70) (tgt := 74) dX8_closes_67 rfl (by decide) (fun c5 => ?_) (fun c5 => ?_)
              · rw [bI_eq0] at c5
                refine g_iconst (v := 0) (pc1 := 75) dX8_closes_74 rfl (by decide) ?_
                refine g_istore_n (i := 3) (pc1 := 76) dX8_closes_75 rfl rfl (Nat.le_of_ble_eq_true rfl) ?_
                exact fin false (by rw [e1, c2]; unfold okv; rw [c5]; simp)
              · rw [bI_ne0] at c5
                refine g_iconst (v := 1) (pc1 := 71) dX8_closes_70 rfl (by decide) ?_
                refine g_goto (tgt := 75) dX8_closes_71 (by decide) ?_
                refine g_istore_n (i := 3) (pc1 := 76) dX8_closes_75 rfl rfl (Nat.le_of_ble_eq_true rfl) ?_
                exact fin true (by rw [e1, c2]; unfold okv; rw [c5, h4, decide_eq_true h3]; rfl)
  refine g_if_eq (pc1 := 4) (tgt := 8) dX8_closes_1 rfl (by decide) (fun c => ?_) (fun c => ?_)
  · have hx : gdS n A col p 0 = false := by
      unfold gdS
      rw [ex_false.mpr (bS_eq0.mp c)]; rfl
    refine g_iconst (v := 0) (pc1 := 9) dX8_closes_8 rfl (by decide) ?_
    refine g_istore_n (i := 3) (pc1 := 10) dX8_closes_9 rfl rfl (Nat.le_of_ble_eq_true rfl) ?_
    refine g_iconst (v := 0) (pc1 := 11) dX8_closes_10 rfl (by decide) ?_
    refine g_istore (pc1 := 13) dX8_closes_11 rfl (Nat.le_of_ble_eq_true rfl) ?_
    exact aGo.eq key (by rw [hx]; rfl) rfl rfl
  · have hx : gdS n A col p 0 = true := by
      unfold gdS
      cases he : ex p 32 with
      | true => rfl
      | false => exact absurd (bS_eq0.mpr (ex_false.mp he)) c
    refine g_iconst (v := 1) (pc1 := 5) dX8_closes_4 rfl (by decide) ?_
    refine g_goto (tgt := 9) dX8_closes_5 (by decide) ?_
    refine g_istore_n (i := 3) (pc1 := 10) dX8_closes_9 rfl rfl (Nat.le_of_ble_eq_true rfl) ?_
    refine g_iconst (v := 0) (pc1 := 11) dX8_closes_10 rfl (by decide) ?_
    refine g_istore (pc1 := 13) dX8_closes_11 rfl (Nat.le_of_ble_eq_true rfl) ?_
    exact aGo.eq key (by rw [hx]; rfl) rfl rfl
theorem r_begins {A : Nat → Nat → Bool} (hg : rG (nI n, nr, ot) n A) (hk : Gok n A) {col : tCol} {u : Nat} (hc : rK cf col) (hok : Cok n col u) {k : Nat} (hk30 : k ≤ 30) {lg : tLog} (hT : rL T lg) {t : Nat} {o y : Int32} (ht : lg[t]? = some (o, y)) {st : tSk} (hF : fC F st) (hst : st.length + cnt (brP n col) n ≤ n) : aRet 4 0 0 mX8_begins [.ref 24, .int (nI t), .int (nI k)] (rp x (nI n, nr, ot) (cf, sf) F W L T V P) (fun w g =>
    (o = 4 ∧ w = some (.int (bI (cloS n A col k (bt y)))) ∧ g = rp x (nI n, nr, ot) (cf, sf) F W L T V P) ∨
    (o = 1 ∧ (vtx n y && brP n col y.toNatClampNeg) = true ∧ w = some (.int 1) ∧ ∃ F' : tF, fC F' (st ++ [(y.toNatClampNeg, 0, u)]) ∧ g = rp x (nI n, nr, ot) (cf, sf) F' W L T V P) ∨
    (o ≠ 4 ∧ ¬ (o = 1 ∧ (vtx n y && brP n col y.toNatClampNeg) = true) ∧ w = some (.int 0) ∧ g = rp x (nI n, nr, ot) (cf, sf) F W L T V P)) := by
  have hn := hk.1
  have hl := hT.2.1
  have htl := (List.getElem?_eq_some_iff.mp ht).1
  have hty := hT.2.2 t o y ht
  refine aRet.of (by decide) (Nat.le_of_ble_eq_true rfl) (a_ok2 rfl) ?_
  refine g_aload_n (i := 0) (pc1 := 1) dX8_begins_0 rfl rfl rfl ?_
  refine g_get (pc1 := 4) dX8_begins_1 rfl flX8_41 rfl rfl ?_
  refine g_iconst (v := 2) (pc1 := 5) dX8_begins_4 rfl (by decide) ?_
  refine g_iload_n (i := 1) (pc1 := 6) dX8_begins_5 rfl rfl rfl ?_
  refine g_imul (pc1 := 7) dX8_begins_6 rfl ?_
  refine g_ialdJ (pc1 := 8) dX8_begins_7 rfl rfl (ix2 t) (by omega) (by decide) ?_
  refine g_istore_n (i := 3) (pc1 := 9) dX8_begins_8 rfl rfl (Nat.le_of_ble_eq_true rfl) ?_
  refine g_aload_n (i := 0) (pc1 := 10) dX8_begins_9 rfl rfl rfl ?_
  refine g_get (pc1 := 13) dX8_begins_10 rfl flX8_41 rfl rfl ?_
  refine g_iconst (v := 2) (pc1 := 14) dX8_begins_13 rfl (by decide) ?_
  refine g_iload_n (i := 1) (pc1 := 15) dX8_begins_14 rfl rfl rfl ?_
  refine g_imul (pc1 := 16) dX8_begins_15 rfl ?_
  refine g_iconst (v := 1) (pc1 := 17) dX8_begins_16 rfl (by decide) ?_
  refine g_iadd (pc1 := 18) dX8_begins_17 rfl ?_
  refine g_ialdJ (pc1 := 19) dX8_begins_18 rfl rfl (ix21 t) (by omega) (by decide) ?_
  refine g_istore (pc1 := 21) dX8_begins_19 rfl (Nat.le_of_ble_eq_true rfl) ?_
  refine g_iload_n (i := 3) (pc1 := 22) dX8_begins_21 rfl rfl rfl ?_
  refine g_iconst (v := 4) (pc1 := 23) dX8_begins_22 rfl (by decide) ?_
  rw [hty.1, hty.2]
  refine g_icmp_ne (pc1 := 26) (tgt := 34) dX8_begins_23 rfl (by decide) (fun c1 => ?_) (fun c1 => ?_)
  · refine g_iload_n (i := 3) (pc1 := 35) dX8_begins_34 rfl rfl rfl ?_
    refine g_iconst (v := 1) (pc1 := 36) dX8_begins_35 rfl (by decide) ?_
    refine g_icmp_ne (pc1 := 39) (tgt := 58) dX8_begins_36 rfl (by decide) (fun c2 => ?_) (fun c2 => ?_)
    · refine g_iconst (v := 0) (pc1 := 59) dX8_begins_58 rfl (by decide) ?_
      refine g_iret dX8_begins_59 rfl (bI_nar false) (Nat.le_of_ble_eq_true rfl) (Nat.le_of_ble_eq_true rfl) ?_
      exact Or.inr (Or.inr ⟨c1, fun q => c2 q.1, rfl, rfl⟩)
    · refine g_aload_n (i := 0) (pc1 := 40) dX8_begins_39 rfl rfl rfl ?_
      refine g_iload (pc1 := 42) dX8_begins_40 rfl rfl ?_
      refine g_V1 (M := mX8_isVertex) (pc1 := 45) dX8_begins_42 rfl lkX8_58 tmX8_isVertex rfl (r_isVertex x n nr ot (cf, sf) F W L T V P y) (Nat.le_of_ble_eq_true rfl) rfl (Nat.le_of_ble_eq_true rfl) (Nat.le_of_ble_eq_true rfl) ?_
      rintro _ _ ⟨rfl, rfl⟩
      refine g_if_eq (pc1 := 48) (tgt := 58) dX8_begins_45 rfl (by decide) (fun c3 => ?_) (fun c3 => ?_)
      · rw [bI_eq0] at c3
        refine g_iconst (v := 0) (pc1 := 59) dX8_begins_58 rfl (by decide) ?_
        refine g_iret dX8_begins_59 rfl (bI_nar false) (Nat.le_of_ble_eq_true rfl) (Nat.le_of_ble_eq_true rfl) ?_
        exact Or.inr (Or.inr ⟨c1, (fun q => by rw [c3] at q; cases q.2), rfl, rfl⟩)
      · rw [bI_ne0] at c3
        obtain ⟨v, hv, rfl⟩ := (vtx_iff hn).mp c3
        have hcl : (nI v).toNatClampNeg = v := nI_clamp (by omega)
        rw [hcl]
        refine g_aload_n (i := 0) (pc1 := 49) dX8_begins_48 rfl rfl rfl ?_
        refine g_get (pc1 := 52) dX8_begins_49 rfl flX8_16 rfl rfl ?_
        refine g_iload (pc1 := 54) dX8_begins_52 rfl rfl ?_
        refine g_ialdJ (pc1 := 55) dX8_begins_54 rfl rfl rfl (by omega) (by decide) ?_
        rw [show (cf, sf).1 v = enO (col v) from hc v (by omega)]
        have hneg := enO_neg (o := col v) (fun c q => hok.c30 v c q)
        refine g_if_lt (pc1 := 58) (tgt := 60) dX8_begins_55 rfl (by decide) (fun c4 => ?_) (fun c4 => ?_)
        · have hb : brP n col v = true := by unfold brP; rw [decide_eq_true hv, hneg.mp c4]; rfl
          have hpos := cnt_pos (p := brP n col) hv hb
          refine g_aload_n (i := 0) (pc1 := 61) dX8_begins_60 rfl rfl rfl ?_
          refine g_iload (pc1 := 63) dX8_begins_61 rfl rfl ?_
          refine g_V1 (M := mX8_enter) (pc1 := 66) dX8_begins_63 rfl lkX8_130 tmX8_enter rfl (r_enter x n L T V P (nI n, nr, ot) rfl hn cf sf F W hc hok hF (by omega) v) (Nat.le_of_ble_eq_true rfl) rfl (Nat.le_of_ble_eq_true rfl) (Nat.le_of_ble_eq_true rfl) ?_
          rintro _ _ ⟨rfl, F', hF', rfl⟩
          show aGo _ 66 _ [] _ _ _
          refine g_iconst (v := 1) (pc1 := 67) dX8_begins_66 rfl (by decide) ?_
          refine g_iret dX8_begins_67 rfl (bI_nar true) (Nat.le_of_ble_eq_true rfl) (Nat.le_of_ble_eq_true rfl) ?_
          exact Or.inr (Or.inl ⟨c2, by rw [c3, hb]; rfl, rfl, F', hF', rfl⟩)
        · refine g_iconst (v := 0) (pc1 := 59) dX8_begins_58 rfl (by decide) ?_
          refine g_iret dX8_begins_59 rfl (bI_nar false) (Nat.le_of_ble_eq_true rfl) (Nat.le_of_ble_eq_true rfl) ?_
          refine Or.inr (Or.inr ⟨c1, fun q => ?_, rfl, rfl⟩)
          have hb : brP n col v = true := by
            have := q.2
            rw [c3, Bool.true_and] at this
            exact this
          unfold brP at hb
          simp only [Bool.and_eq_true, Option.isNone_iff_eq_none] at hb
          exact c4 (hneg.mpr hb.2)
  · refine g_aload_n (i := 0) (pc1 := 27) dX8_begins_26 rfl rfl rfl ?_
    refine g_iload (pc1 := 29) dX8_begins_27 rfl rfl ?_
    refine g_iload_n (i := 2) (pc1 := 30) dX8_begins_29 rfl rfl rfl ?_
    rw [bS_bt y]
    refine g_V2 (M := mX8_closes) (pc1 := 33) dX8_begins_30 rfl lkX8_164 tmX8_closes rfl (r_closes x n nr ot cf sf F W L T V P hg hk hc hok.c30 hk30 (bt y)) (Nat.le_of_ble_eq_true rfl) rfl (Nat.le_of_ble_eq_true rfl) (Nat.le_of_ble_eq_true rfl) ?_
    rintro _ _ ⟨rfl, rfl⟩
    refine g_iret dX8_begins_33 rfl (bI_nar _) (Nat.le_of_ble_eq_true rfl) (Nat.le_of_ble_eq_true rfl) ?_
    rw [← bS_bt y]
    exact Or.inl ⟨c1, rfl, rfl⟩
end
