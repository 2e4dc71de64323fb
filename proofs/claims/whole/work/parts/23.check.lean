/-! ===== going over a log ===== -/
def cloS (n : Nat) (A : Nat → Nat → Bool) (col : tCol) (k : Nat) (p : Nat → Bool) : Bool :=
  ex p 32 && (!ex (fun i => p i && !brP n col i) 32 && (!ex (fun v => p v && ex (fun i => (p i && !A v i) != decide (i = v)) 32) n && decide (cnt (frS n A col k p) 30 < cnt p 32)))
def vtx (n : Nat) (x : Int32) : Bool := decide (0 ≤ x ∧ x < nI n)
def blk (n : Nat) (A : Nat → Nat → Bool) (col : tCol) (v c : Nat) (x : Int32) : Bool := vtx n x && (A v x.toNatClampNeg && decide (col x.toNatClampNeg = some c))
def bst (lg : tLog) (t : Nat) (q : Int32 → Int32 → Bool) : Bool := match lg[t]? with
  | none => false
  | some e => q e.1 e.2
def pfl (rec : tCol → Nat → Nat → Bool × Nat) (n : Nat) (A : Nat → Nat → Bool) (k : Nat) (lg : tLog) (col : tCol) (u v : Nat) : Nat → Nat → Nat → Bool × Nat
  | 0, _, t => (true, t)
  | m + 1, c, t => if c < k ∧ c ≤ u then
      (if hC n A col v c = true then (if bst lg t (fun o x => decide (o = 2) && blk n A col v c x) = true then pfl rec n A k lg col u v m (c + 1) (t + 1) else (false, t))
      else if bst lg t (fun o x => decide (o = 3) && decide (x = nI c)) = true then
        (if (rec (cset col v c) (up1 u c) (t + 1)).1 = true then pfl rec n A k lg col u v m (c + 1) (rec (cset col v c) (up1 u c) (t + 1)).2 else rec (cset col v c) (up1 u c) (t + 1))
        else (false, t)) else (true, t)
def pf (n : Nat) (A : Nat → Nat → Bool) (k : Nat) (lg : tLog) : Nat → tCol → Nat → Nat → Bool × Nat
  | 0, _, _, t => (false, t)
  | d + 1, col, u, t => match lg[t]? with
    | none => (false, t)
    | some e => if e.1 = 1 then (if (vtx n e.2 && brP n col e.2.toNatClampNeg) = true then pfl (pf n A k lg d) n A k lg col u e.2.toNatClampNeg 31 0 (t + 1) else (false, t))
      else if e.1 = 4 then (if cloS n A col k (bt e.2) = true then (true, t + 1) else (false, t)) else (false, t)
def pfR (n : Nat) (A : Nat → Nat → Bool) (k : Nat) (lg : tLog) : Bool × Nat := pf n A k lg 31 (fun _ => none) 0 0
def ckA (n : Nat) (A : Nat → Nat → Bool) (k : Nat) (lg : tLog) : Int32 := if (pfR n A k lg).1 = true ∧ (pfR n A k lg).2 = lg.length then -1 else nI (pfR n A k lg).2
theorem vtx_iff {n : Nat} (hn : n ≤ 30) {x : Int32} : vtx n x = true ↔ ∃ v, v < n ∧ x = nI v := by
  unfold vtx
  rw [decide_eq_true_eq]
  exact hol_iff (by omega)
theorem bst_lt {lg : tLog} {t : Nat} {q : Int32 → Int32 → Bool} (h : bst lg t q = true) : t < lg.length := by
  unfold bst at h
  cases he : lg[t]? with
  | none => rw [he] at h; cases h
  | some e => exact (List.getElem?_eq_some_iff.mp he).1
section
variable (n : Nat) (nr tn : fI) (K : tK) (S : tS) (L1 : tL) (U : tU) (L2 L3 : tL) (P : fI) (r : List aC)
theorem c_stepOverIf (G : tG) (k : Int32) (t : Nat) (b : Bool) : aRet 0 0 0 mX0_stepOverIf [.ref 21, .int (bI b)] (cp G K S L1 U L2 L3 (k, nI t) P r) (fun x g => x = some (.int (bI b)) ∧ g = cp G K S L1 U L2 L3 (k, nI (if b then t + 1 else t)) P r) := by
  refine aRet.of (by decide) (Nat.le_of_ble_eq_true rfl) (a_ok2 rfl) ?_
  refine g_iload_n (i := 1) (pc1 := 1) dX0_stepOverIf_0 rfl rfl rfl ?_
  cases b with
  | false =>
    refine g_if_eq (pc1 := 4) (tgt := 14) dX0_stepOverIf_1 rfl (by decide) (fun _ => ?_) (fun c => absurd rfl c)
    refine g_iload_n (i := 1) (pc1 := 15) dX0_stepOverIf_14 rfl rfl rfl ?_
    refine g_iret dX0_stepOverIf_15 rfl rfl (Nat.le_of_ble_eq_true rfl) (Nat.le_of_ble_eq_true rfl) ?_
    exact ⟨rfl, rfl⟩
  | true =>
    refine g_if_eq (pc1 := 4) (tgt := 14) dX0_stepOverIf_1 rfl (by decide) (fun c => absurd c (by decide)) (fun _ => ?_)
    refine g_aload_n (i := 0) (pc1 := 5) dX0_stepOverIf_4 rfl rfl rfl ?_
    refine g_dup (pc1 := 6) dX0_stepOverIf_5 rfl rfl ?_
    refine g_get (pc1 := 9) dX0_stepOverIf_6 rfl flX0_15 rfl rfl ?_
    refine g_iconst (v := 1) (pc1 := 10) dX0_stepOverIf_9 rfl (by decide) ?_
    refine g_iadd (pc1 := 11) dX0_stepOverIf_10 rfl ?_
    refine g_puti (pc1 := 14) dX0_stepOverIf_11 rfl flX0_15 rfl (Nat.le_of_ble_eq_true rfl) rfl rfl ?_
    refine g_iload_n (i := 1) (pc1 := 15) dX0_stepOverIf_14 rfl rfl rfl ?_
    refine g_iret dX0_stepOverIf_15 rfl rfl (Nat.le_of_ble_eq_true rfl) (Nat.le_of_ble_eq_true rfl) ?_
    refine ⟨rfl, ?_⟩
    show cp G K S L1 U L2 L3 (k, nI t + 1) P r = _
    rw [nI_1]
    rfl
set_option maxHeartbeats 1000000 in
theorem c_blocks {A : Nat → Nat → Bool} (hg : hG n nr tn A) (hk : Gok n A) {lg : tLog} (hL : lC L3 lg) {col : tCol} {u v c t k : Nat} (hK : kC K n A col u) (hc : Cok n col u) (hv : v < 30) (hc30 : c < 30) (ht : t ≤ lg.length) : aRet 2 0 0 mX0_blocks [.ref 21, .int (nI v), .int (nI c)] (cp (nI n, nr, tn) K S L1 U L2 L3 (nI k, nI t) P r) (fun x g => x = some (.int (bI (bst lg t (fun o x => decide (o = 2) && blk n A col v c x)))) ∧ g = cp (nI n, nr, tn) K S L1 U L2 L3 (nI k, nI t) P r) := by
  have hn := hk.1
  have hl := hL.2.1
  refine aRet.of (by decide) (Nat.le_of_ble_eq_true rfl) (a_ok2 rfl) ?_
  refine g_aload_n (i := 0) (pc1 := 1) dX0_blocks_0 rfl rfl rfl ?_
  refine g_get (pc1 := 4) dX0_blocks_1 rfl flX0_26 rfl rfl ?_
  refine g_aload_n (i := 0) (pc1 := 5) dX0_blocks_4 rfl rfl rfl ?_
  refine g_get (pc1 := 8) dX0_blocks_5 rfl flX0_15 rfl rfl ?_
  refine g_V1 (M := mX3_holds) (pc1 := 11) dX0_blocks_8 rfl lkX0_44 tmX3_holds rfl (c_holds18 (nI n, nr, tn) K S L1 U L2 L3 (nI k, nI t) P r hL (nI t)) (Nat.le_of_ble_eq_true rfl) rfl (Nat.le_of_ble_eq_true rfl) (Nat.le_of_ble_eq_true rfl) ?_
  rintro _ _ ⟨rfl, rfl⟩
  refine g_if_eq (pc1 := 14) (tgt := 30) dX0_blocks_11 rfl (by decide) (fun c1 => ?_) (fun c1 => ?_)
  · rw [bI_eq0, decide_eq_false_iff_not] at c1
    have hno : lg[t]? = none := List.getElem?_eq_none_iff.mpr (by
      refine Nat.not_lt.mp fun h => c1 ((hol_iff (by omega)).mpr ⟨t, h, rfl⟩))
    refine g_iconst (v := 0) (pc1 := 31) dX0_blocks_30 rfl (by decide) ?_
    refine g_iret dX0_blocks_31 rfl rfl (Nat.le_of_ble_eq_true rfl) (Nat.le_of_ble_eq_true rfl) ?_
    exact ⟨by unfold bst; rw [hno]; rfl, rfl⟩
  · rw [bI_ne0, decide_eq_true_eq] at c1
    have htl : t < lg.length := (nI_ltI (by omega) (by omega)).mp c1.2
    obtain ⟨⟨eo, ex⟩, he⟩ : ∃ e, lg[t]? = some e := ⟨_, List.getElem?_eq_getElem htl⟩
    obtain ⟨h1, h2⟩ := hL.2.2 t eo ex he
    have hb : bst lg t (fun o x => decide (o = 2) && blk n A col v c x) = (decide (eo = 2) && blk n A col v c ex) := by unfold bst; rw [he]
    rw [hb]
    refine g_aload_n (i := 0) (pc1 := 15) dX0_blocks_14 rfl rfl rfl ?_
    refine g_get (pc1 := 18) dX0_blocks_15 rfl flX0_26 rfl rfl ?_
    refine g_get (pc1 := 21) dX0_blocks_18 rfl flX0_51 rfl rfl ?_
    refine g_aload_n (i := 0) (pc1 := 22) dX0_blocks_21 rfl rfl rfl ?_
    refine g_get (pc1 := 25) dX0_blocks_22 rfl flX0_15 rfl rfl ?_
    refine g_ialdJ (pc1 := 26) dX0_blocks_25 rfl rfl rfl (by omega) (by decide) ?_
    refine g_iconst (v := 2) (pc1 := 27) dX0_blocks_26 rfl (by decide) ?_
    rw [h1]
    refine g_icmp_eq (pc1 := 30) (tgt := 32) dX0_blocks_27 rfl (by decide) (fun c2 => ?_) (fun c2 => ?_)
    · rw [decide_eq_true c2, Bool.true_and]
      refine g_aload_n (i := 0) (pc1 := 33) dX0_blocks_32 rfl rfl rfl ?_
      refine g_get (pc1 := 36) dX0_blocks_33 rfl flX0_26 rfl rfl ?_
      refine g_get (pc1 := 39) dX0_blocks_36 rfl flX0_47 rfl rfl ?_
      refine g_aload_n (i := 0) (pc1 := 40) dX0_blocks_39 rfl rfl rfl ?_
      refine g_get (pc1 := 43) dX0_blocks_40 rfl flX0_15 rfl rfl ?_
      refine g_ialdJ (pc1 := 44) dX0_blocks_43 rfl rfl rfl (by omega) (by decide) ?_
      refine g_istore_n (i := 3) (pc1 := 45) dX0_blocks_44 rfl rfl (Nat.le_of_ble_eq_true rfl) ?_
      refine g_aload_n (i := 0) (pc1 := 46) dX0_blocks_45 rfl rfl rfl ?_
      refine g_get (pc1 := 49) dX0_blocks_46 rfl flX0_18 rfl rfl ?_
      refine g_iload_n (i := 3) (pc1 := 50) dX0_blocks_49 rfl rfl rfl ?_
      rw [h2]
      refine g_V1 (M := mX2_isVertex) (pc1 := 53) dX0_blocks_50 rfl lkX0_65 tmX2_isVertex rfl (c_isVertex (nI n, nr, tn) K S L1 U L2 L3 (nI k, nI t) P r n hn rfl ex) (Nat.le_of_ble_eq_true rfl) rfl (Nat.le_of_ble_eq_true rfl) (Nat.le_of_ble_eq_true rfl) ?_
      rintro _ _ ⟨rfl, rfl⟩
      refine g_if_eq (pc1 := 56) (tgt := 85) dX0_blocks_53 rfl (by decide) (fun c3 => ?_) (fun c3 => ?_)
      · rw [bI_eq0] at c3
        refine g_iconst (v := 0) (pc1 := 86) dX0_blocks_85 rfl (by decide) ?_
        refine g_iret dX0_blocks_86 rfl (bI_nar false) (Nat.le_of_ble_eq_true rfl) (Nat.le_of_ble_eq_true rfl) ?_
        exact ⟨by unfold blk; rw [show vtx n ex = false from c3]; rfl, rfl⟩
      · rw [bI_ne0] at c3
        obtain ⟨w, hw, rfl⟩ := (vtx_iff hn).mp c3
        have hbl : blk n A col v c (nI w) = (A v w && decide (col w = some c)) := by unfold blk; rw [show vtx n (nI w) = true from c3, nI_clamp (by omega)]; rfl
        rw [hbl]
        refine g_aload_n (i := 0) (pc1 := 57) dX0_blocks_56 rfl rfl rfl ?_
        refine g_get (pc1 := 60) dX0_blocks_57 rfl flX0_18 rfl rfl ?_
        refine g_iload_n (i := 1) (pc1 := 61) dX0_blocks_60 rfl rfl rfl ?_
        refine g_iload_n (i := 3) (pc1 := 62) dX0_blocks_61 rfl rfl rfl ?_
        refine g_V2 (M := mX2_joined) (pc1 := 65) dX0_blocks_62 rfl lkX0_96 tmX2_joined rfl (c_joined (nI n, nr, tn) K S L1 U L2 L3 (nI k, nI t) P r hg (a := v) (b := w) hv (by omega)) (Nat.le_of_ble_eq_true rfl) rfl (Nat.le_of_ble_eq_true rfl) (Nat.le_of_ble_eq_true rfl) ?_
        rintro _ _ ⟨rfl, rfl⟩
        refine g_if_eq (pc1 := 68) (tgt := 85) dX0_blocks_65 rfl (by decide) (fun c4 => ?_) (fun c4 => ?_)
        · rw [bI_eq0] at c4
          refine g_iconst (v := 0) (pc1 := 86) dX0_blocks_85 rfl (by decide) ?_
          refine g_iret dX0_blocks_86 rfl (bI_nar false) (Nat.le_of_ble_eq_true rfl) (Nat.le_of_ble_eq_true rfl) ?_
          exact ⟨by rw [c4]; rfl, rfl⟩
        · rw [bI_ne0] at c4
          rw [c4, Bool.true_and]
          refine g_aload_n (i := 0) (pc1 := 69) dX0_blocks_68 rfl rfl rfl ?_
          refine g_get (pc1 := 72) dX0_blocks_69 rfl flX0_22 rfl rfl ?_
          refine g_get (pc1 := 75) dX0_blocks_72 rfl flX0_99 rfl rfl ?_
          refine g_iload_n (i := 3) (pc1 := 76) dX0_blocks_75 rfl rfl rfl ?_
          refine g_ialdJ (pc1 := 77) dX0_blocks_76 rfl rfl rfl (by omega) (by decide) ?_
          refine g_iload_n (i := 2) (pc1 := 78) dX0_blocks_77 rfl rfl rfl ?_
          rw [hK.1 w (by omega)]
          have hiff : enO (col w) = nI c ↔ col w = some c := by
            cases hcw : col w with
            | none =>
              constructor
              · intro e
                exact absurd (show nI c ≤ -1 by rw [← e]; exact Int32.le_refl _) (nI_m1_lt (by omega))
              · intro e; cases e
            | some d =>
              have := (hc.1 w d hcw).2
              show nI d = nI c ↔ _
              rw [nI_eq (by omega) (by omega)]
              simp
          refine g_icmp_ne (pc1 := 81) (tgt := 85) dX0_blocks_78 rfl (by decide) (fun c5 => ?_) (fun c5 => ?_)
          · refine g_iconst (v := 0) (pc1 := 86) dX0_blocks_85 rfl (by decide) ?_
            refine g_iret dX0_blocks_86 rfl (bI_nar false) (Nat.le_of_ble_eq_true rfl) (Nat.le_of_ble_eq_true rfl) ?_
            exact ⟨by rw [decide_eq_false (fun q => c5 (hiff.mpr q))]; rfl, rfl⟩
          · refine g_iconst (v := 1) (pc1 := 82) dX0_blocks_81 rfl (by decide) ?_
            refine g_goto (tgt := 86) dX0_blocks_82 (by decide) ?_
            refine g_iret dX0_blocks_86 rfl (bI_nar true) (Nat.le_of_ble_eq_true rfl) (Nat.le_of_ble_eq_true rfl) ?_
            exact ⟨by rw [decide_eq_true (hiff.mp c5)]; rfl, rfl⟩
    · rw [decide_eq_false c2]
      refine g_iconst (v := 0) (pc1 := 31) dX0_blocks_30 rfl (by decide) ?_
      refine g_iret dX0_blocks_31 rfl (bI_nar false) (Nat.le_of_ble_eq_true rfl) (Nat.le_of_ble_eq_true rfl) ?_
      exact ⟨rfl, rfl⟩
set_option maxHeartbeats 1000000 in
theorem c_closes {A : Nat → Nat → Bool} (hg : hG n nr tn A) (hk : Gok n A) {col : tCol} {u k : Nat} (C : Int32 × Int32) (hC1 : C.1 = nI k) (hk30 : k ≤ 30) (hK : kC K n A col u) (s : Int32) : aRet 2 0 0 mX0_closes [.ref 21, .int s] (cp (nI n, nr, tn) K S L1 U L2 L3 C P r) (fun x g => x = some (.int (bI (cloS n A col k (bt s)))) ∧ g = cp (nI n, nr, tn) K S L1 U L2 L3 C P r) := by
  have hn := hk.1
  obtain ⟨p, rfl⟩ : ∃ p, s = bS p := ⟨bt s, bS_eq fun i _ => rfl⟩
  have hpb : ∀ i, i < 32 → bt (bS p) i = p i := fun i hi => by rw [bt_bS]; simp [hi]
  have hcl : cloS n A col k (bt (bS p)) = cloS n A col k p := by
    unfold cloS
    rw [ex_congr (q := p) hpb, ex_congr (p := fun i => bt (bS p) i && !brP n col i) (q := fun i => p i && !brP n col i) (fun i hi => by rw [hpb i hi]), cnt_bS]
    rw [ex_congr (n := n) (q := fun v => p v && ex (fun i => (p i && !A v i) != decide (i = v)) 32) (fun v hv => by
      rw [hpb v (by omega), ex_congr (n := 32) (q := fun i => (p i && !A v i) != decide (i = v)) (fun i hi => by rw [hpb i hi])])]
    have : frS n A col k (bt (bS p)) = frS n A col k p := by
      funext c
      unfold frS
      rw [ex_congr (n := n) (q := fun v => p v && !hC n A col v c) (fun v hv => by rw [hpb v (by omega)])]
    rw [this]
  rw [hcl]
  refine aRet.of (by decide) (Nat.le_of_ble_eq_true rfl) (a_ok2 rfl) ?_
  refine g_iload_n (i := 1) (pc1 := 1) dX0_closes_0 rfl rfl rfl ?_
  refine g_if_eq (pc1 := 4) (tgt := 18) dX0_closes_1 rfl (by decide) (fun c1 => ?_) (fun c1 => ?_)
  · have h0 := bS_eq0.mp c1
    refine g_iconst (v := 0) (pc1 := 19) dX0_closes_18 rfl (by decide) ?_
    refine g_iret dX0_closes_19 rfl (bI_nar false) (Nat.le_of_ble_eq_true rfl) (Nat.le_of_ble_eq_true rfl) ?_
    exact ⟨by unfold cloS; rw [ex_false.mpr h0]; rfl, rfl⟩
  · have h0 : ex p 32 = true := by
      cases h : ex p 32 with
      | true => rfl
      | false => exact absurd (bS_eq0.mpr (ex_false.mp h)) c1
    refine g_iload_n (i := 1) (pc1 := 5) dX0_closes_4 rfl rfl rfl ?_
    refine g_aload_n (i := 0) (pc1 := 6) dX0_closes_5 rfl rfl rfl ?_
    refine g_get (pc1 := 9) dX0_closes_6 rfl flX0_22 rfl rfl ?_
    refine g_get (pc1 := 12) dX0_closes_9 rfl flX0_70 rfl rfl ?_
    refine g_iconst (v := (-1)) (pc1 := 13) dX0_closes_12 rfl (by decide) ?_
    refine g_ixor (pc1 := 14) dX0_closes_13 rfl ?_
    refine g_iand (pc1 := 15) dX0_closes_14 rfl ?_
    rw [hK.2.2.2.1, bS_not, bS_and]
    refine g_if_eq (pc1 := 18) (tgt := 20) dX0_closes_15 rfl (by decide) (fun c2 => ?_) (fun c2 => ?_)
    · have h1 : ex (fun i => p i && !brP n col i) 32 = false := ex_false.mpr (bS_eq0.mp c2)
      refine g_iconst (v := 0) (pc1 := 21) dX0_closes_20 rfl (by decide) ?_
      refine g_istore_n (i := 2) (pc1 := 22) dX0_closes_21 rfl rfl (Nat.le_of_ble_eq_true rfl) ?_
      refine g_iconst (v := 0) (pc1 := 23) dX0_closes_22 rfl (by decide) ?_
      refine g_istore_n (i := 3) (pc1 := 24) dX0_closes_23 rfl rfl (Nat.le_of_ble_eq_true rfl) ?_
      have hcl2 : cloS n A col k p = (!ex (fun v => p v && ex (fun i => (p i && !A v i) != decide (i = v)) 32) n && decide (cnt (frS n A col k p) 30 < cnt p 32)) := by
        unfold cloS; rw [h0, h1]; rfl
      rw [hcl2]
      have key : (∀ v, v < 0 → (p v && ex (fun i => (p i && !A v i) != decide (i = v)) 32) = false) → aGo (2, 0, 0, mX0_closes, none, fun x g => x = some (.int (bI (!ex (fun v => p v && ex (fun i => (p i && !A v i) != decide (i = v)) 32) n && decide (cnt (frS n A col k p) 30 < cnt p 32)))) ∧ g = cp (nI n, nr, tn) K S L1 U L2 L3 C P r) 24 [.ref 21, .int (bS p), .int (bS (fun c => decide (c < k) && ex (fun v => p v && !hC n A col v c) 0)), .int (nI 0)] [] (cp (nI n, nr, tn) K S L1 U L2 L3 C P r) 0 0 := by
        refine down0 (P := fun w => (∀ v, v < w → (p v && ex (fun i => (p i && !A v i) != decide (i = v)) 32) = false) → aGo _ 24 [.ref 21, .int (bS p), .int (bS (fun c => decide (c < k) && ex (fun v => p v && !hC n A col v c) w)), .int (nI w)] [] (cp (nI n, nr, tn) K S L1 U L2 L3 C P r) 0 0) n ?_ ?_
        · intro hall
          refine g_iload_n (i := 3) (pc1 := 25) dX0_closes_24 rfl rfl rfl ?_
          refine g_aload_n (i := 0) (pc1 := 26) dX0_closes_25 rfl rfl rfl ?_
          refine g_get (pc1 := 29) dX0_closes_26 rfl flX0_18 rfl rfl ?_
          refine g_get (pc1 := 32) dX0_closes_29 rfl flX0_102 rfl rfl ?_
          refine g_icmp_ge (pc1 := 35) (tgt := 85) dX0_closes_32 rfl (by decide) (fun _ => ?_) (fun c => absurd (Int32.le_refl _) c)
          rw [ex_false.mpr hall]
          refine g_iload_n (i := 2) (pc1 := 86) dX0_closes_85 rfl rfl rfl ?_
          refine g_S1 (M := mJ6_bitCount_0f7a4) (pc1 := 89) dX0_closes_86 rfl lkX0_110 tmJ6_bitCount_0f7a4 (c_bitCount _) (Nat.le_of_ble_eq_true rfl) rfl (Nat.le_of_ble_eq_true rfl) (Nat.le_of_ble_eq_true rfl) ?_
          rintro _ _ ⟨rfl, rfl⟩
          refine g_iload_n (i := 1) (pc1 := 90) dX0_closes_89 rfl rfl rfl ?_
          refine g_S1 (M := mJ6_bitCount_0f7a4) (pc1 := 93) dX0_closes_90 rfl lkX0_110 tmJ6_bitCount_0f7a4 (c_bitCount _) (Nat.le_of_ble_eq_true rfl) rfl (Nat.le_of_ble_eq_true rfl) (Nat.le_of_ble_eq_true rfl) ?_
          rintro _ _ ⟨rfl, rfl⟩
          rw [cnt_bS, cnt_bS]
          have e1 : cnt (fun c => decide (c < k) && ex (fun v => p v && !hC n A col v c) n) 32 = cnt (frS n A col k p) 30 := cnt_frS hk30 p
          rw [e1]
          have l1 := cnt_le (frS n A col k p) 30
          have l2 := cnt_le p 32
          show aGo _ 93 _ [.int (nI (cnt p 32)), .int (nI (cnt (frS n A col k p) 30))] _ _ _
          refine g_icmp_ge (pc1 := 96) (tgt := 100) dX0_closes_93 rfl (by decide) (fun c3 => ?_) (fun c3 => ?_)
          · have h3 : ¬ cnt (frS n A col k p) 30 < cnt p 32 := by
              have := (nI_leI (a := cnt p 32) (b := cnt (frS n A col k p) 30) (by omega) (by omega)).mp c3
              omega
            refine g_iconst (v := 0) (pc1 := 101) dX0_closes_100 rfl (by decide) ?_
            refine g_iret dX0_closes_101 rfl (bI_nar false) (Nat.le_of_ble_eq_true rfl) (Nat.le_of_ble_eq_true rfl) ?_
            exact ⟨by rw [decide_eq_false h3]; rfl, rfl⟩
          · have h3 : cnt (frS n A col k p) 30 < cnt p 32 := by
              have : ¬ cnt p 32 ≤ cnt (frS n A col k p) 30 := fun q => c3 ((nI_leI (a := cnt p 32) (b := cnt (frS n A col k p) 30) (by omega) (by omega)).mpr q)
              omega
            refine g_iconst (v := 1) (pc1 := 97) dX0_closes_96 rfl (by decide) ?_
            refine g_goto (tgt := 101) dX0_closes_97 (by decide) ?_
            refine g_iret dX0_closes_101 rfl (bI_nar true) (Nat.le_of_ble_eq_true rfl) (Nat.le_of_ble_eq_true rfl) ?_
            exact ⟨by rw [decide_eq_true h3]; rfl, rfl⟩
        · intro w hw ih hall
          refine g_iload_n (i := 3) (pc1 := 25) dX0_closes_24 rfl rfl rfl ?_
          refine g_aload_n (i := 0) (pc1 := 26) dX0_closes_25 rfl rfl rfl ?_
          refine g_get (pc1 := 29) dX0_closes_26 rfl flX0_18 rfl rfl ?_
          refine g_get (pc1 := 32) dX0_closes_29 rfl flX0_102 rfl rfl ?_
          refine g_icmp_ge (pc1 := 35) (tgt := 85) dX0_closes_32 rfl (by decide) (fun c => absurd c (fun c => absurd ((nI_leI (a := n) (b := w) (by omega) (by omega)).mp c) (by omega))) (fun _ => ?_)
          refine g_iload_n (i := 1) (pc1 := 36) dX0_closes_35 rfl rfl rfl ?_
          refine g_iload_n (i := 3) (pc1 := 37) dX0_closes_36 rfl rfl rfl ?_
          refine g_SN2 (M := mX7_contains) (pc1 := 40) dX0_closes_37 rfl ⟨rfl, lnX0_73⟩ tmX7_contains (c_contains (bS p) (j := w) (by omega)) (Nat.le_of_ble_eq_true rfl) rfl (Nat.le_of_ble_eq_true rfl) (Nat.le_of_ble_eq_true rfl) ?_
          rintro _ _ ⟨rfl, rfl⟩
          rw [hpb w (by omega)]
          refine g_if_eq (pc1 := 43) (tgt := 79) dX0_closes_40 rfl (by decide) (fun c3 => ?_) (fun c3 => ?_)
          · rw [bI_eq0] at c3
            refine g_iinc (pc1 := 82) dX0_closes_79 rfl rfl rfl ?_
            refine g_goto (tgt := 24) dX0_closes_82 (by decide) ?_
            refine aGo.eq (ih fun v hv => ?_) ?_ rfl rfl
            · by_cases hvw : v = w
              · subst hvw; rw [c3]; rfl
              · exact hall v (by omega)
            · show [Value.ref 21, .int (bS p), .int (bS (fun c => decide (c < k) && ex (fun v => p v && !hC n A col v c) w)), .int (nI w + Int32.ofInt 1)] = _
              have e : (fun c => decide (c < k) && ex (fun v => p v && !hC n A col v c) (w + 1)) = (fun c => decide (c < k) && ex (fun v => p v && !hC n A col v c) w) := by
                funext c
                show (decide (c < k) && (ex _ w || (p w && _))) = _
                rw [c3]; simp
              rw [show nI w + Int32.ofInt 1 = nI (w + 1) from nI_1 w, e]
          · rw [bI_ne0] at c3
            refine g_iload_n (i := 1) (pc1 := 44) dX0_closes_43 rfl rfl rfl ?_
            refine g_aload_n (i := 0) (pc1 := 45) dX0_closes_44 rfl rfl rfl ?_
            refine g_get (pc1 := 48) dX0_closes_45 rfl flX0_18 rfl rfl ?_
            refine g_get (pc1 := 51) dX0_closes_48 rfl flX0_103 rfl rfl ?_
            refine g_iload_n (i := 3) (pc1 := 52) dX0_closes_51 rfl rfl rfl ?_
            refine g_ialdJ (pc1 := 53) dX0_closes_52 rfl rfl rfl (by omega) (by decide) ?_
            refine g_iconst (v := (-1)) (pc1 := 54) dX0_closes_53 rfl (by decide) ?_
            refine g_ixor (pc1 := 55) dX0_closes_54 rfl ?_
            refine g_iand (pc1 := 56) dX0_closes_55 rfl ?_
            refine g_iconst (v := 1) (pc1 := 57) dX0_closes_56 rfl (by decide) ?_
            refine g_iload_n (i := 3) (pc1 := 58) dX0_closes_57 rfl rfl rfl ?_
            refine g_ishl (pc1 := 59) dX0_closes_58 rfl ?_
            dsimp only
            rw [show nr w = bS (A w) from hg.row (by omega), bS_not, bS_and, bS_bit (j := w) (by omega)]
            refine g_icmp_eq (pc1 := 62) (tgt := 64) dX0_closes_59 rfl (by decide) (fun c4 => ?_) (fun c4 => ?_)
            · have h4 := bS_inj.mp c4
              have h5 : ex (fun i => (p i && !A w i) != decide (i = w)) 32 = false := ex_false.mpr fun i hi => by rw [h4 i hi]; simp
              refine g_iload_n (i := 2) (pc1 := 65) dX0_closes_64 rfl rfl rfl ?_
              refine g_aload_n (i := 0) (pc1 := 66) dX0_closes_65 rfl rfl rfl ?_
              refine g_get (pc1 := 69) dX0_closes_66 rfl flX0_22 rfl rfl ?_
              refine g_iload_n (i := 3) (pc1 := 70) dX0_closes_69 rfl rfl rfl ?_
              refine g_aload_n (i := 0) (pc1 := 71) dX0_closes_70 rfl rfl rfl ?_
              refine g_get (pc1 := 74) dX0_closes_71 rfl flX0_9 rfl rfl ?_
              rw [hC1]
              refine g_V2 (M := mX1_freeWith) (pc1 := 77) dX0_closes_74 rfl lkX0_106 tmX1_freeWith rfl (c_freeWith n nr tn K S L1 U L2 L3 C P r hK (v := w) (k := k) (by omega) hk30) (Nat.le_of_ble_eq_true rfl) rfl (Nat.le_of_ble_eq_true rfl) (Nat.le_of_ble_eq_true rfl) ?_
              rintro _ _ ⟨rfl, rfl⟩
              show aGo _ 77 _ [.int _, .int _] _ _ _
              refine g_ior (pc1 := 78) dX0_closes_77 rfl ?_
              refine g_istore_n (i := 2) (pc1 := 79) dX0_closes_78 rfl rfl (Nat.le_of_ble_eq_true rfl) ?_
              refine g_iinc (pc1 := 82) dX0_closes_79 rfl rfl rfl ?_
              refine g_goto (tgt := 24) dX0_closes_82 (by decide) ?_
              refine aGo.eq (ih fun v hv => ?_) ?_ rfl rfl
              · by_cases hvw : v = w
                · subst hvw; rw [h5]; simp
                · exact hall v (by omega)
              · show [Value.ref 21, .int (bS p), .int (bS (fun c => decide (c < k) && ex (fun v => p v && !hC n A col v c) w) ||| bS (fun c => decide (c < k) && !hC n A col w c)), .int (nI w + Int32.ofInt 1)] = _
                have e : (fun i => decide (i < k) && ex (fun v => p v && !hC n A col v i) w || decide (i < k) && !hC n A col w i) = (fun c => decide (c < k) && ex (fun v => p v && !hC n A col v c) (w + 1)) := by
                  funext c
                  show _ = (decide (c < k) && (ex _ w || (p w && _)))
                  rw [c3]
                  cases decide (c < k) <;> simp
                rw [show nI w + Int32.ofInt 1 = nI (w + 1) from nI_1 w, bS_or, e]
            · have h5 : ex (fun i => (p i && !A w i) != decide (i = w)) 32 = true := by
                cases h : ex (fun i => (p i && !A w i) != decide (i = w)) 32 with
                | true => rfl
                | false =>
                  refine absurd (bS_congr fun i hi => ?_) c4
                  have := ex_false.mp h i hi
                  simpa using this
              refine g_iconst (v := 0) (pc1 := 63) dX0_closes_62 rfl (by decide) ?_
              refine g_iret dX0_closes_63 rfl (bI_nar false) (Nat.le_of_ble_eq_true rfl) (Nat.le_of_ble_eq_true rfl) ?_
              refine ⟨?_, rfl⟩
              rw [ex_iff.mpr ⟨w, hw, by rw [c3, h5]; rfl⟩]
              rfl
      refine aGo.eq (key (fun v hv => absurd hv (Nat.not_lt_zero v))) ?_ rfl rfl
      show [Value.ref 21, .int (bS p), .int 0, .int 0] = _
      have e : bS (fun c => decide (c < k) && ex (fun v => p v && !hC n A col v c) 0) = 0 := bS_eq0.mpr fun c _ => by simp [ex]
      rw [e]
      rfl
    · have h1 : ex (fun i => p i && !brP n col i) 32 = true := by
        cases h : ex (fun i => p i && !brP n col i) 32 with
        | true => rfl
        | false => exact absurd (bS_eq0.mpr (ex_false.mp h)) c2
      refine g_iconst (v := 0) (pc1 := 19) dX0_closes_18 rfl (by decide) ?_
      refine g_iret dX0_closes_19 rfl (bI_nar false) (Nat.le_of_ble_eq_true rfl) (Nat.le_of_ble_eq_true rfl) ?_
      exact ⟨by unfold cloS; rw [h0, h1]; rfl, rfl⟩
end
