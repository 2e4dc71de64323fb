/-! ===== going over a log: down and back ===== -/
section
variable (n : Nat) (nr tn : fI) (S : tS) (L1 : tL) (U : tU) (L2 L3 : tL) (P : fI) (r : List aC)
/-- behind a part of a proof: the answer, the line, the colouring as it was -/
def Qp (A : Nat → Nat → Bool) (k : Nat) (lg : tLog) (col : tCol) (u : Nat) (R : Bool × Nat) (x : Option Value) (g : List aC) : Prop := ∃ K' : tK, x = some (.int (bI R.1)) ∧ kC K' n A col u ∧ R.2 ≤ lg.length ∧ g = cp (nI n, nr, tn) K' S L1 U L2 L3 (nI k, nI R.2) P r
def PrfP (A : Nat → Nat → Bool) (k : Nat) (lg : tLog) (d : Nat) : Prop := ∀ (K : tK) (col : tCol) (u t dep : Nat), kC K n A col u → Cok n col u → t ≤ lg.length → cnt (brP n col) n < d → dep + cnt (brP n col) n ≤ n →
  aRet (3 * d + 5) 0 0 mX0_proof [.ref 21, .int (nI dep)] (cp (nI n, nr, tn) K S L1 U L2 L3 (nI k, nI t) P r) (Qp n nr tn S L1 U L2 L3 P r A k lg col u (pf n A k lg d col u t))
def atpS (n : Nat) (A : Nat → Nat → Bool) (k : Nat) (lg : tLog) (d : Nat) (col : tCol) (u v c t : Nat) : Bool × Nat :=
  if bst lg t (fun o x => decide (o = 3) && decide (x = nI c)) = true then pf n A k lg d (cset col v c) (up1 u c) (t + 1) else (false, t)
set_option maxHeartbeats 1000000 in
theorem c_cattempt {A : Nat → Nat → Bool} (hg : hG n nr tn A) (hk : Gok n A) {k d : Nat} {lg : tLog} (hL : lC L3 lg) (hV : PrfP n nr tn S L1 U L2 L3 P r A k lg d) (K : tK) (col : tCol) (u t dep v c : Nat) (hK : kC K n A col u) (hc : Cok n col u) (ht : t ≤ lg.length) (hd : cnt (brP n col) n < d + 1) (hdep : dep + cnt (brP n col) n ≤ n) (hv : v < n) (hv0 : col v = none) (hcu : c ≤ u) (hc30 : c < 30) :
    aRet (3 * d + 6) 0 0 mX0_attempt [.ref 21, .int (nI v), .int (nI c), .int (nI dep)] (cp (nI n, nr, tn) K S L1 U L2 L3 (nI k, nI t) P r) (Qp n nr tn S L1 U L2 L3 P r A k lg col u (atpS n A k lg d col u v c t)) := by
  have hn := hk.1
  have hl := hL.2.1
  have hbr := cnt_brP_set (c := c) hv hv0
  have step : ∀ b : Bool, b = bst lg t (fun o x => decide (o = 3) && decide (x = nI c)) → aGo (3 * d + 6, 0, 0, mX0_attempt, none, Qp n nr tn S L1 U L2 L3 P r A k lg col u (atpS n A k lg d col u v c t)) 52 [.ref 21, .int (nI v), .int (nI c), .int (nI dep), .null] [.int (bI b), .ref 21] (cp (nI n, nr, tn) K S L1 U L2 L3 (nI k, nI t) P r) 0 0 := by
    intro b hb
    refine g_V1 (M := mX0_stepOverIf) (pc1 := 55) dX0_attempt_52 rfl lkX0_61 tmX0_stepOverIf rfl (c_stepOverIf K S L1 U L2 L3 P r (nI n, nr, tn) (nI k) t b) (by show _ ≤ 3 * d + 6; omega) rfl (Nat.le_of_ble_eq_true rfl) (Nat.le_of_ble_eq_true rfl) ?_
    rintro _ _ ⟨rfl, rfl⟩
    cases b with
    | false =>
      refine g_if_ne (pc1 := 58) (tgt := 60) dX0_attempt_55 rfl (by decide) (fun c => absurd c (fun h => h rfl)) (fun _ => ?_)
      refine g_iconst (v := 0) (pc1 := 59) dX0_attempt_58 rfl (by decide) ?_
      refine g_iret dX0_attempt_59 rfl (bI_nar false) (Nat.le_of_ble_eq_true rfl) (Nat.le_of_ble_eq_true rfl) ?_
      unfold atpS
      rw [← hb]
      exact ⟨K, rfl, hK, ht, rfl⟩
    | true =>
      have htl : t < lg.length := bst_lt hb.symm
      refine g_if_ne (pc1 := 58) (tgt := 60) dX0_attempt_55 rfl (by decide) (fun _ => ?_) (fun c => absurd c (by decide))
      refine g_aload_n (i := 0) (pc1 := 61) dX0_attempt_60 rfl rfl rfl ?_
      refine g_get (pc1 := 64) dX0_attempt_61 rfl flX0_22 rfl rfl ?_
      refine g_iload_n (i := 1) (pc1 := 65) dX0_attempt_64 rfl rfl rfl ?_
      refine g_iload_n (i := 2) (pc1 := 66) dX0_attempt_65 rfl rfl rfl ?_
      refine g_V2 (M := mX1_give) (pc1 := 69) dX0_attempt_66 rfl lkX0_89 tmX1_give rfl (c_give n nr tn K S L1 U L2 L3 (nI k, nI (t + 1)) P r hg hk hK hc hv hv0 hcu hc30) (by show _ ≤ 3 * d + 6; omega) rfl (Nat.le_of_ble_eq_true rfl) (Nat.le_of_ble_eq_true rfl) ?_
      rintro _ _ ⟨rfl, K1, hK1, rfl⟩
      show aGo _ 69 _ [] _ _ _
      refine g_aload_n (i := 0) (pc1 := 70) dX0_attempt_69 rfl rfl rfl ?_
      refine g_iload_n (i := 3) (pc1 := 71) dX0_attempt_70 rfl rfl rfl ?_
      refine g_iconst (v := 1) (pc1 := 72) dX0_attempt_71 rfl (by decide) ?_
      refine g_iadd (pc1 := 73) dX0_attempt_72 rfl ?_
      rw [show nI dep + 1 = nI (dep + 1) from nI_1 dep]
      refine g_V1 (M := mX0_proof) (pc1 := 76) dX0_attempt_73 rfl lkX0_35 tmX0_proof rfl (hV K1 (cset col v c) (up1 u c) (t + 1) (dep + 1) hK1 (hc.set hv hv0 hcu hc30) (by omega) (by omega) (by omega)) (by show _ ≤ 3 * d + 6; omega) rfl (Nat.le_of_ble_eq_true rfl) (Nat.le_of_ble_eq_true rfl) ?_
      rintro _ _ ⟨K2, rfl, hK2, hle, rfl⟩
      refine g_istore (pc1 := 78) dX0_attempt_76 rfl (Nat.le_of_ble_eq_true rfl) ?_
      refine g_aload_n (i := 0) (pc1 := 79) dX0_attempt_78 rfl rfl rfl ?_
      refine g_get (pc1 := 82) dX0_attempt_79 rfl flX0_22 rfl rfl ?_
      refine g_iload_n (i := 1) (pc1 := 83) dX0_attempt_82 rfl rfl rfl ?_
      refine g_iload_n (i := 2) (pc1 := 84) dX0_attempt_83 rfl rfl rfl ?_
      refine g_V2 (M := mX1_strip) (pc1 := 87) dX0_attempt_84 rfl lkX0_93 tmX1_strip rfl (c_strip n nr tn K2 S L1 U L2 L3 (nI k, nI (pf n A k lg d (cset col v c) (up1 u c) (t + 1)).2) P r hg hk hK2 hc hv hv0 hcu hc30) (by show _ ≤ 3 * d + 6; omega) rfl (Nat.le_of_ble_eq_true rfl) (Nat.le_of_ble_eq_true rfl) ?_
      rintro _ _ ⟨rfl, K3, hK3, rfl⟩
      show aGo _ 87 _ [] _ _ _
      refine g_iload (pc1 := 89) dX0_attempt_87 rfl rfl ?_
      refine g_iret dX0_attempt_89 rfl (bI_nar _) (Nat.le_of_ble_eq_true rfl) (Nat.le_of_ble_eq_true rfl) ?_
      unfold atpS
      rw [← hb]
      exact ⟨K3, rfl, hK3, hle, rfl⟩
  refine aRet.of (by decide) (Nat.le_of_ble_eq_true rfl) (a_ok2 rfl) ?_
  refine g_aload_n (i := 0) (pc1 := 1) dX0_attempt_0 rfl rfl rfl ?_
  refine g_aload_n (i := 0) (pc1 := 2) dX0_attempt_1 rfl rfl rfl ?_
  refine g_get (pc1 := 5) dX0_attempt_2 rfl flX0_26 rfl rfl ?_
  refine g_aload_n (i := 0) (pc1 := 6) dX0_attempt_5 rfl rfl rfl ?_
  refine g_get (pc1 := 9) dX0_attempt_6 rfl flX0_15 rfl rfl ?_
  refine g_V1 (M := mX3_holds) (pc1 := 12) dX0_attempt_9 rfl lkX0_44 tmX3_holds rfl (c_holds18 (nI n, nr, tn) K S L1 U L2 L3 (nI k, nI t) P r hL (nI t)) (by show _ ≤ 3 * d + 6; omega) rfl (Nat.le_of_ble_eq_true rfl) (Nat.le_of_ble_eq_true rfl) ?_
  rintro _ _ ⟨rfl, rfl⟩
  refine g_if_eq (pc1 := 15) (tgt := 51) dX0_attempt_12 rfl (by decide) (fun c1 => ?_) (fun c1 => ?_)
  · rw [bI_eq0, decide_eq_false_iff_not] at c1
    have hno : lg[t]? = none := List.getElem?_eq_none_iff.mpr (by
      refine Nat.not_lt.mp fun h => c1 ((hol_iff (by omega)).mpr ⟨t, h, rfl⟩))
    refine g_iconst (v := 0) (pc1 := 52) dX0_attempt_51 rfl (by decide) ?_
    exact step false (by unfold bst; rw [hno])
  · rw [bI_ne0, decide_eq_true_eq] at c1
    have htl : t < lg.length := (nI_ltI (by omega) (by omega)).mp c1.2
    obtain ⟨⟨eo, ex⟩, he⟩ : ∃ e, lg[t]? = some e := ⟨_, List.getElem?_eq_getElem htl⟩
    obtain ⟨h1, h2⟩ := hL.2.2 t eo ex he
    have hb : bst lg t (fun o x => decide (o = 3) && decide (x = nI c)) = (decide (eo = 3) && decide (ex = nI c)) := by unfold bst; rw [he]
    rw [hb] at step
    refine g_aload_n (i := 0) (pc1 := 16) dX0_attempt_15 rfl rfl rfl ?_
    refine g_get (pc1 := 19) dX0_attempt_16 rfl flX0_26 rfl rfl ?_
    refine g_get (pc1 := 22) dX0_attempt_19 rfl flX0_51 rfl rfl ?_
    refine g_aload_n (i := 0) (pc1 := 23) dX0_attempt_22 rfl rfl rfl ?_
    refine g_get (pc1 := 26) dX0_attempt_23 rfl flX0_15 rfl rfl ?_
    refine g_ialdJ (pc1 := 27) dX0_attempt_26 rfl rfl rfl (by omega) (by decide) ?_
    refine g_iconst (v := 3) (pc1 := 28) dX0_attempt_27 rfl (by decide) ?_
    rw [h1]
    refine g_icmp_ne (pc1 := 31) (tgt := 51) dX0_attempt_28 rfl (by decide) (fun c2 => ?_) (fun c2 => ?_)
    · refine g_iconst (v := 0) (pc1 := 52) dX0_attempt_51 rfl (by decide) ?_
      exact step false (by rw [decide_eq_false c2]; rfl)
    · refine g_aload_n (i := 0) (pc1 := 32) dX0_attempt_31 rfl rfl rfl ?_
      refine g_get (pc1 := 35) dX0_attempt_32 rfl flX0_26 rfl rfl ?_
      refine g_get (pc1 := 38) dX0_attempt_35 rfl flX0_47 rfl rfl ?_
      refine g_aload_n (i := 0) (pc1 := 39) dX0_attempt_38 rfl rfl rfl ?_
      refine g_get (pc1 := 42) dX0_attempt_39 rfl flX0_15 rfl rfl ?_
      refine g_ialdJ (pc1 := 43) dX0_attempt_42 rfl rfl rfl (by omega) (by decide) ?_
      refine g_iload_n (i := 2) (pc1 := 44) dX0_attempt_43 rfl rfl rfl ?_
      rw [h2]
      refine g_icmp_ne (pc1 := 47) (tgt := 51) dX0_attempt_44 rfl (by decide) (fun c3 => ?_) (fun c3 => ?_)
      · refine g_iconst (v := 0) (pc1 := 52) dX0_attempt_51 rfl (by decide) ?_
        exact step false (by rw [decide_eq_false c3]; simp)
      · refine g_iconst (v := 1) (pc1 := 48) dX0_attempt_47 rfl (by decide) ?_
        refine g_goto (tgt := 52) dX0_attempt_48 (by decide) ?_
        exact step true (by rw [decide_eq_true c2, decide_eq_true c3]; rfl)
def pbrS (n : Nat) (A : Nat → Nat → Bool) (k : Nat) (lg : tLog) (d : Nat) (col : tCol) (u : Nat) (x : Int32) (t : Nat) : Bool × Nat :=
  if (vtx n x && brP n col x.toNatClampNeg) = true then pfl (pf n A k lg d) n A k lg col u x.toNatClampNeg 31 0 (t + 1) else (false, t)
set_option maxHeartbeats 2000000 in
theorem c_cbranch {A : Nat → Nat → Bool} (hg : hG n nr tn A) (hk : Gok n A) {k d : Nat} (hk30 : k ≤ 30) {lg : tLog} (hL : lC L3 lg) (hV : PrfP n nr tn S L1 U L2 L3 P r A k lg d) (K : tK) (col : tCol) (u t dep : Nat) (x : Int32) (hK : kC K n A col u) (hc : Cok n col u) (ht : t < lg.length) (hd : cnt (brP n col) n < d + 1) (hdep : dep + cnt (brP n col) n ≤ n) :
    aRet (3 * d + 7) 0 0 mX0_branch [.ref 21, .int x, .int (nI dep)] (cp (nI n, nr, tn) K S L1 U L2 L3 (nI k, nI t) P r) (Qp n nr tn S L1 U L2 L3 P r A k lg col u (pbrS n A k lg d col u x t)) := by
  have hn := hk.1
  have hl := hL.2.1
  have step : ∀ b : Bool, b = (vtx n x && brP n col x.toNatClampNeg) → aGo (3 * d + 7, 0, 0, mX0_branch, none, Qp n nr tn S L1 U L2 L3 P r A k lg col u (pbrS n A k lg d col u x t)) 31 [.ref 21, .int x, .int (nI dep), .null, .null, .null] [.int (bI b), .ref 21] (cp (nI n, nr, tn) K S L1 U L2 L3 (nI k, nI t) P r) 0 0 := by
    intro b hb
    refine g_V1 (M := mX0_stepOverIf) (pc1 := 34) dX0_branch_31 rfl lkX0_61 tmX0_stepOverIf rfl (c_stepOverIf K S L1 U L2 L3 P r (nI n, nr, tn) (nI k) t b) (by show _ ≤ 3 * d + 7; omega) rfl (Nat.le_of_ble_eq_true rfl) (Nat.le_of_ble_eq_true rfl) ?_
    rintro _ _ ⟨rfl, rfl⟩
    cases b with
    | false =>
      refine g_if_ne (pc1 := 37) (tgt := 39) dX0_branch_34 rfl (by decide) (fun c => absurd c (fun h => h rfl)) (fun _ => ?_)
      refine g_iconst (v := 0) (pc1 := 38) dX0_branch_37 rfl (by decide) ?_
      refine g_iret dX0_branch_38 rfl (bI_nar false) (Nat.le_of_ble_eq_true rfl) (Nat.le_of_ble_eq_true rfl) ?_
      unfold pbrS
      rw [← hb]
      exact ⟨K, rfl, hK, by show t ≤ _; omega, rfl⟩
    | true =>
      have hb' := hb.symm
      simp only [Bool.and_eq_true] at hb'
      obtain ⟨v, hv, rfl⟩ := (vtx_iff hn).mp hb'.1
      have hcv : (nI v).toNatClampNeg = v := nI_clamp (by omega)
      rw [hcv] at hb'
      have hv0 : col v = none := by
        have := hb'.2
        simp only [brP, Bool.and_eq_true, Option.isNone_iff_eq_none] at this
        exact this.2
      have hun := hc.lt hv hv0
      have hpb : pbrS n A k lg d col u (nI v) t = pfl (pf n A k lg d) n A k lg col u v (31 - 0) 0 (t + 1) := by unfold pbrS; rw [← hb, hcv]; rfl
      rw [hpb]
      refine g_if_ne (pc1 := 37) (tgt := 39) dX0_branch_34 rfl (by decide) (fun _ => ?_) (fun c => absurd c (by decide))
      refine g_aload_n (i := 0) (pc1 := 40) dX0_branch_39 rfl rfl rfl ?_
      refine g_get (pc1 := 43) dX0_branch_40 rfl flX0_22 rfl rfl ?_
      refine g_get (pc1 := 46) dX0_branch_43 rfl flX0_76 rfl rfl ?_
      refine g_istore_n (i := 3) (pc1 := 47) dX0_branch_46 rfl rfl (Nat.le_of_ble_eq_true rfl) ?_
      refine g_iconst (v := 0) (pc1 := 48) dX0_branch_47 rfl (by decide) ?_
      refine g_istore (pc1 := 50) dX0_branch_48 rfl (Nat.le_of_ble_eq_true rfl) ?_
      rw [show K.2.2.2.2 = nI u from hK.2.2.2.2]
      generalize hW : pfl (pf n A k lg d) n A k lg col u v (31 - 0) 0 (t + 1) = W
      have key : ∀ (K1 : tK) (t1 : Nat), kC K1 n A col u → t1 ≤ lg.length → W = pfl (pf n A k lg d) n A k lg col u v (31 - 0) 0 t1 → aGo (3 * d + 7, 0, 0, mX0_branch, none, Qp n nr tn S L1 U L2 L3 P r A k lg col u W) 50 [.ref 21, .int (nI v), .int (nI dep), .int (nI u), .int (nI 0), .null] [] (cp (nI n, nr, tn) K1 S L1 U L2 L3 (nI k, nI t1) P r) 0 0 := by
        refine down0 (P := fun c => ∀ (K1 : tK) (t1 : Nat), kC K1 n A col u → t1 ≤ lg.length → W = pfl (pf n A k lg d) n A k lg col u v (31 - c) c t1 → aGo _ 50 [.ref 21, .int (nI v), .int (nI dep), .int (nI u), .int (nI c), .null] [] (cp (nI n, nr, tn) K1 S L1 U L2 L3 (nI k, nI t1) P r) 0 0) 31 ?_ ?_
        · intro K1 t1 hK1 ht1 hR
          refine g_iload (pc1 := 52) dX0_branch_50 rfl rfl ?_
          refine g_aload_n (i := 0) (pc1 := 53) dX0_branch_52 rfl rfl rfl ?_
          refine g_get (pc1 := 56) dX0_branch_53 rfl flX0_9 rfl rfl ?_
          refine g_icmp_ge (pc1 := 59) (tgt := 115) dX0_branch_56 rfl (by decide) (fun _ => ?_) (fun c => absurd ((nI_leI (a := k) (b := 31) (by omega) (by omega)).mpr (by omega)) c)
          refine g_iconst (v := 1) (pc1 := 116) dX0_branch_115 rfl (by decide) ?_
          refine g_iret dX0_branch_116 rfl (bI_nar true) (Nat.le_of_ble_eq_true rfl) (Nat.le_of_ble_eq_true rfl) ?_
          rw [hR]
          exact ⟨K1, rfl, hK1, ht1, rfl⟩
        · intro c hc31 ih K1 t1 hK1 ht1 hR
          rw [show 31 - c = (31 - (c + 1)) + 1 by omega] at hR
          unfold pfl at hR
          refine g_iload (pc1 := 52) dX0_branch_50 rfl rfl ?_
          refine g_aload_n (i := 0) (pc1 := 53) dX0_branch_52 rfl rfl rfl ?_
          refine g_get (pc1 := 56) dX0_branch_53 rfl flX0_9 rfl rfl ?_
          refine g_icmp_ge (pc1 := 59) (tgt := 115) dX0_branch_56 rfl (by decide) (fun c1 => ?_) (fun c1 => ?_)
          · have hkc : ¬ c < k := by
              have := (nI_leI (a := k) (b := c) (by omega) (by omega)).mp c1
              omega
            rw [if_neg (fun h => hkc h.1)] at hR
            refine g_iconst (v := 1) (pc1 := 116) dX0_branch_115 rfl (by decide) ?_
            refine g_iret dX0_branch_116 rfl (bI_nar true) (Nat.le_of_ble_eq_true rfl) (Nat.le_of_ble_eq_true rfl) ?_
            rw [hR]
            exact ⟨K1, rfl, hK1, ht1, rfl⟩
          · have hkc : c < k := by
              have : ¬ k ≤ c := fun q => c1 ((nI_leI (a := k) (b := c) (by omega) (by omega)).mpr q)
              omega
            refine g_iload (pc1 := 61) dX0_branch_59 rfl rfl ?_
            refine g_iload_n (i := 3) (pc1 := 62) dX0_branch_61 rfl rfl rfl ?_
            refine g_icmp_gt (pc1 := 65) (tgt := 115) dX0_branch_62 rfl (by decide) (fun c2 => ?_) (fun c2 => ?_)
            · have hcu : ¬ c ≤ u := by
                have := (nI_ltI (a := u) (b := c) (by omega) (by omega)).mp c2
                omega
              rw [if_neg (fun h => hcu h.2)] at hR
              refine g_iconst (v := 1) (pc1 := 116) dX0_branch_115 rfl (by decide) ?_
              refine g_iret dX0_branch_116 rfl (bI_nar true) (Nat.le_of_ble_eq_true rfl) (Nat.le_of_ble_eq_true rfl) ?_
              rw [hR]
              exact ⟨K1, rfl, hK1, ht1, rfl⟩
            · have hcu : c ≤ u := by
                have : ¬ u < c := fun q => c2 ((nI_ltI (a := u) (b := c) (by omega) (by omega)).mpr q)
                omega
              rw [if_pos ⟨hkc, hcu⟩] at hR
              have hc30 : c < 30 := by omega
              refine g_aload_n (i := 0) (pc1 := 66) dX0_branch_65 rfl rfl rfl ?_
              refine g_get (pc1 := 69) dX0_branch_66 rfl flX0_22 rfl rfl ?_
              refine g_iload_n (i := 1) (pc1 := 70) dX0_branch_69 rfl rfl rfl ?_
              refine g_iload (pc1 := 72) dX0_branch_70 rfl rfl ?_
              refine g_V2 (M := mX1_blocked) (pc1 := 75) dX0_branch_72 rfl lkX0_79 tmX1_blocked rfl (c_blocked n nr tn K1 S L1 U L2 L3 (nI k, nI t1) P r hK1 (v := v) (c := c) (by omega) (by omega)) (by show _ ≤ 3 * d + 7; omega) rfl (Nat.le_of_ble_eq_true rfl) (Nat.le_of_ble_eq_true rfl) ?_
              rintro _ _ ⟨rfl, rfl⟩
              have hnx : ∀ (b : Bool) (K2 : tK) (t2 : Nat), kC K2 n A col u → t2 ≤ lg.length → W = (if b = true then pfl (pf n A k lg d) n A k lg col u v (31 - (c + 1)) (c + 1) t2 else (false, t2)) → aGo (3 * d + 7, 0, 0, mX0_branch, none, Qp n nr tn S L1 U L2 L3 P r A k lg col u W) 100 [.ref 21, .int (nI v), .int (nI dep), .int (nI u), .int (nI c), .null] [.int (bI b)] (cp (nI n, nr, tn) K2 S L1 U L2 L3 (nI k, nI t2) P r) 0 0 := by
                intro b K2 t2 hK2 ht2 hR2
                refine g_istore (pc1 := 102) dX0_branch_100 rfl (Nat.le_of_ble_eq_true rfl) ?_
                refine g_iload (pc1 := 104) dX0_branch_102 rfl rfl ?_
                cases b with
                | false =>
                  refine g_if_ne (pc1 := 107) (tgt := 109) dX0_branch_104 rfl (by decide) (fun c => absurd c (fun h => h rfl)) (fun _ => ?_)
                  refine g_iconst (v := 0) (pc1 := 108) dX0_branch_107 rfl (by decide) ?_
                  refine g_iret dX0_branch_108 rfl (bI_nar false) (Nat.le_of_ble_eq_true rfl) (Nat.le_of_ble_eq_true rfl) ?_
                  rw [hR2]
                  exact ⟨K2, rfl, hK2, ht2, rfl⟩
                | true =>
                  refine g_if_ne (pc1 := 107) (tgt := 109) dX0_branch_104 rfl (by decide) (fun _ => ?_) (fun c => absurd c (by decide))
                  refine g_iinc (pc1 := 112) dX0_branch_109 rfl rfl rfl ?_
                  refine g_goto (tgt := 50) dX0_branch_112 (by decide) ?_
                  refine aGo.forget 5 ?_
                  refine aGo.eq (ih K2 t2 hK2 ht2 hR2) ?_ rfl rfl
                  show [Value.ref 21, .int (nI v), .int (nI dep), .int (nI u), .int (nI c + Int32.ofInt 1), .null] = _
                  rw [show nI c + Int32.ofInt 1 = nI (c + 1) from nI_1 c]
              refine g_if_eq (pc1 := 78) (tgt := 92) dX0_branch_75 rfl (by decide) (fun c3 => ?_) (fun c3 => ?_)
              · rw [bI_eq0] at c3
                rw [if_neg (by rw [c3]; decide)] at hR
                refine g_aload_n (i := 0) (pc1 := 93) dX0_branch_92 rfl rfl rfl ?_
                refine g_iload_n (i := 1) (pc1 := 94) dX0_branch_93 rfl rfl rfl ?_
                refine g_iload (pc1 := 96) dX0_branch_94 rfl rfl ?_
                refine g_iload_n (i := 2) (pc1 := 97) dX0_branch_96 rfl rfl rfl ?_
                refine g_V3 (M := mX0_attempt) (pc1 := 100) dX0_branch_97 rfl lkX0_85 tmX0_attempt rfl (c_cattempt n nr tn S L1 U L2 L3 P r hg hk hL hV K1 col u t1 dep v c hK1 hc ht1 hd hdep hv hv0 hcu hc30) (by show _ ≤ 3 * d + 7; omega) rfl (Nat.le_of_ble_eq_true rfl) (Nat.le_of_ble_eq_true rfl) ?_
                rintro _ _ ⟨K2, rfl, hK2, hle, rfl⟩
                refine hnx _ K2 _ hK2 hle ?_
                by_cases hq : bst lg t1 (fun o x => decide (o = 3) && decide (x = nI c)) = true
                · have e : atpS n A k lg d col u v c t1 = pf n A k lg d (cset col v c) (up1 u c) (t1 + 1) := by unfold atpS; rw [if_pos hq]
                  rw [e]
                  rw [if_pos hq] at hR
                  rw [hR]
                  by_cases hz : (pf n A k lg d (cset col v c) (up1 u c) (t1 + 1)).1 = true
                  · rw [if_pos hz, if_pos hz]
                  · rw [if_neg hz, if_neg hz]
                    have hz' : (pf n A k lg d (cset col v c) (up1 u c) (t1 + 1)).1 = false := by simpa using hz
                    exact Prod.ext hz' rfl
                · have e : atpS n A k lg d col u v c t1 = (false, t1) := by unfold atpS; rw [if_neg hq]
                  rw [e]
                  rw [if_neg hq] at hR
                  rw [hR]
                  rfl
              · rw [bI_ne0] at c3
                rw [if_pos c3] at hR
                refine g_aload_n (i := 0) (pc1 := 79) dX0_branch_78 rfl rfl rfl ?_
                refine g_aload_n (i := 0) (pc1 := 80) dX0_branch_79 rfl rfl rfl ?_
                refine g_iload_n (i := 1) (pc1 := 81) dX0_branch_80 rfl rfl rfl ?_
                refine g_iload (pc1 := 83) dX0_branch_81 rfl rfl ?_
                refine g_V2 (M := mX0_blocks) (pc1 := 86) dX0_branch_83 rfl lkX0_82 tmX0_blocks rfl (c_blocks n nr tn K1 S L1 U L2 L3 P r hg hk hL (t := t1) (k := k) hK1 hc (v := v) (c := c) (by omega) hc30 ht1) (by show _ ≤ 3 * d + 7; omega) rfl (Nat.le_of_ble_eq_true rfl) (Nat.le_of_ble_eq_true rfl) ?_
                rintro _ _ ⟨rfl, rfl⟩
                show aGo _ 86 _ [.int (bI _), .ref 21] _ _ _
                refine g_V1 (M := mX0_stepOverIf) (pc1 := 89) dX0_branch_86 rfl lkX0_61 tmX0_stepOverIf rfl (c_stepOverIf K1 S L1 U L2 L3 P r (nI n, nr, tn) (nI k) t1 _) (by show _ ≤ 3 * d + 7; omega) rfl (Nat.le_of_ble_eq_true rfl) (Nat.le_of_ble_eq_true rfl) ?_
                rintro _ _ ⟨rfl, rfl⟩
                refine g_goto (tgt := 100) dX0_branch_89 (by decide) ?_
                by_cases hq : bst lg t1 (fun o x => decide (o = 2) && blk n A col v c x) = true
                · have := bst_lt hq
                  refine hnx _ K1 _ hK1 ?_ ?_
                  · rw [if_pos hq]; omega
                  · rw [hR, if_pos hq, if_pos hq, if_pos hq]
                · refine hnx _ K1 _ hK1 ?_ ?_
                  · rw [if_neg hq]; exact ht1
                  · rw [hR, if_neg hq, if_neg hq, if_neg hq]
      exact key K (t + 1) hK (by omega) hW.symm
  refine aRet.of (by decide) (Nat.le_of_ble_eq_true rfl) (a_ok2 rfl) ?_
  refine g_aload_n (i := 0) (pc1 := 1) dX0_branch_0 rfl rfl rfl ?_
  refine g_aload_n (i := 0) (pc1 := 2) dX0_branch_1 rfl rfl rfl ?_
  refine g_get (pc1 := 5) dX0_branch_2 rfl flX0_18 rfl rfl ?_
  refine g_iload_n (i := 1) (pc1 := 6) dX0_branch_5 rfl rfl rfl ?_
  refine g_V1 (M := mX2_isVertex) (pc1 := 9) dX0_branch_6 rfl lkX0_65 tmX2_isVertex rfl (c_isVertex (nI n, nr, tn) K S L1 U L2 L3 (nI k, nI t) P r n hn rfl x) (by show _ ≤ 3 * d + 7; omega) rfl (Nat.le_of_ble_eq_true rfl) (Nat.le_of_ble_eq_true rfl) ?_
  rintro _ _ ⟨rfl, rfl⟩
  refine g_if_eq (pc1 := 12) (tgt := 30) dX0_branch_9 rfl (by decide) (fun c1 => ?_) (fun c1 => ?_)
  · rw [bI_eq0] at c1
    refine g_iconst (v := 0) (pc1 := 31) dX0_branch_30 rfl (by decide) ?_
    exact step false (by rw [show vtx n x = false from c1]; rfl)
  · rw [bI_ne0] at c1
    obtain ⟨v, hv, hx⟩ := (vtx_iff hn).mp c1
    have hcv : (nI v).toNatClampNeg = v := nI_clamp (by omega)
    have hbx : (vtx n x && brP n col x.toNatClampNeg) = brP n col v := by rw [show vtx n x = true from c1, hx, hcv]; rfl
    rw [hbx] at step
    refine g_aload_n (i := 0) (pc1 := 13) dX0_branch_12 rfl rfl rfl ?_
    refine g_get (pc1 := 16) dX0_branch_13 rfl flX0_22 rfl rfl ?_
    refine g_get (pc1 := 19) dX0_branch_16 rfl flX0_70 rfl rfl ?_
    refine g_iload_n (i := 1) (pc1 := 20) dX0_branch_19 rfl rfl rfl ?_
    rw [hK.2.2.2.1]
    rw [hx]
    refine g_SN2 (M := mX7_contains) (pc1 := 23) dX0_branch_20 rfl ⟨rfl, lnX0_73⟩ tmX7_contains (c_contains _ (j := v) (by omega)) (by show _ ≤ 3 * d + 7; omega) rfl (Nat.le_of_ble_eq_true rfl) (Nat.le_of_ble_eq_true rfl) ?_
    rintro _ _ ⟨rfl, rfl⟩
    have hb : bt (bS (brP n col)) v = brP n col v := by rw [bt_bS]; simp [show v < 32 by omega]
    rw [hb]
    rw [hx] at step
    refine g_if_eq (pc1 := 26) (tgt := 30) dX0_branch_23 rfl (by decide) (fun c2 => ?_) (fun c2 => ?_)
    · rw [bI_eq0] at c2
      refine g_iconst (v := 0) (pc1 := 31) dX0_branch_30 rfl (by decide) ?_
      exact step false c2.symm
    · rw [bI_ne0] at c2
      refine g_iconst (v := 1) (pc1 := 27) dX0_branch_26 rfl (by decide) ?_
      refine g_goto (tgt := 31) dX0_branch_27 (by decide) ?_
      exact step true c2.symm
set_option maxHeartbeats 1000000 in
theorem c_proof {A : Nat → Nat → Bool} (hg : hG n nr tn A) (hk : Gok n A) {k : Nat} (hk30 : k ≤ 30) {lg : tLog} (hL : lC L3 lg) : ∀ d, PrfP n nr tn S L1 U L2 L3 P r A k lg d := by
  have hn := hk.1
  have hl := hL.2.1
  intro d
  induction d with
  | zero => intro K col u t dep hK hc ht hd; exact absurd hd (Nat.not_lt_zero _)
  | succ d hV =>
    intro K col u t dep hK hc ht hd hdep
    rw [show 3 * (d + 1) + 5 = 3 * d + 8 by omega]
    refine aRet.of (by decide) (Nat.le_of_ble_eq_true rfl) (a_ok2 rfl) ?_
    refine g_aload_n (i := 0) (pc1 := 1) dX0_proof_0 rfl rfl rfl ?_
    refine g_get (pc1 := 4) dX0_proof_1 rfl flX0_26 rfl rfl ?_
    refine g_aload_n (i := 0) (pc1 := 5) dX0_proof_4 rfl rfl rfl ?_
    refine g_get (pc1 := 8) dX0_proof_5 rfl flX0_15 rfl rfl ?_
    refine g_V1 (M := mX3_holds) (pc1 := 11) dX0_proof_8 rfl lkX0_44 tmX3_holds rfl (c_holds18 (nI n, nr, tn) K S L1 U L2 L3 (nI k, nI t) P r hL (nI t)) (by show _ ≤ 3 * d + 8; omega) rfl (Nat.le_of_ble_eq_true rfl) (Nat.le_of_ble_eq_true rfl) ?_
    rintro _ _ ⟨rfl, rfl⟩
    refine g_if_eq (pc1 := 14) (tgt := 20) dX0_proof_11 rfl (by decide) (fun c1 => ?_) (fun c1 => ?_)
    · rw [bI_eq0, decide_eq_false_iff_not] at c1
      have hno : lg[t]? = none := List.getElem?_eq_none_iff.mpr (by
        refine Nat.not_lt.mp fun h => c1 ((hol_iff (by omega)).mpr ⟨t, h, rfl⟩))
      have hp : pf n A k lg (d + 1) col u t = (false, t) := by unfold pf; rw [hno]
      rw [hp]
      refine g_iconst (v := 0) (pc1 := 21) dX0_proof_20 rfl (by decide) ?_
      refine g_iret dX0_proof_21 rfl (bI_nar false) (Nat.le_of_ble_eq_true rfl) (Nat.le_of_ble_eq_true rfl) ?_
      exact ⟨K, rfl, hK, ht, rfl⟩
    · rw [bI_ne0, decide_eq_true_eq] at c1
      have htl : t < lg.length := (nI_ltI (by omega) (by omega)).mp c1.2
      obtain ⟨⟨eo, ex⟩, he⟩ : ∃ e, lg[t]? = some e := ⟨_, List.getElem?_eq_getElem htl⟩
      obtain ⟨h1, h2⟩ := hL.2.2 t eo ex he
      have hp : pf n A k lg (d + 1) col u t = if eo = 1 then pbrS n A k lg d col u ex t else if eo = 4 then (if cloS n A col k (bt ex) = true then (true, t + 1) else (false, t)) else (false, t) := by
        unfold pf; rw [he]; rfl
      rw [hp]
      refine g_iload_n (i := 1) (pc1 := 15) dX0_proof_14 rfl rfl rfl ?_
      refine g_bipush (v := 30) (pc1 := 17) dX0_proof_15 rfl (by decide) ?_
      refine g_icmp_le (pc1 := 20) (tgt := 22) dX0_proof_17 rfl (by decide) (fun _ => ?_) (fun c => absurd ((nI_leI (a := dep) (b := 30) (by omega) (by omega)).mpr (by omega)) c)
      refine g_aload_n (i := 0) (pc1 := 23) dX0_proof_22 rfl rfl rfl ?_
      refine g_get (pc1 := 26) dX0_proof_23 rfl flX0_26 rfl rfl ?_
      refine g_get (pc1 := 29) dX0_proof_26 rfl flX0_47 rfl rfl ?_
      refine g_aload_n (i := 0) (pc1 := 30) dX0_proof_29 rfl rfl rfl ?_
      refine g_get (pc1 := 33) dX0_proof_30 rfl flX0_15 rfl rfl ?_
      refine g_ialdJ (pc1 := 34) dX0_proof_33 rfl rfl rfl (by omega) (by decide) ?_
      refine g_istore_n (i := 2) (pc1 := 35) dX0_proof_34 rfl rfl (Nat.le_of_ble_eq_true rfl) ?_
      refine g_aload_n (i := 0) (pc1 := 36) dX0_proof_35 rfl rfl rfl ?_
      refine g_get (pc1 := 39) dX0_proof_36 rfl flX0_26 rfl rfl ?_
      refine g_get (pc1 := 42) dX0_proof_39 rfl flX0_51 rfl rfl ?_
      refine g_aload_n (i := 0) (pc1 := 43) dX0_proof_42 rfl rfl rfl ?_
      refine g_get (pc1 := 46) dX0_proof_43 rfl flX0_15 rfl rfl ?_
      refine g_ialdJ (pc1 := 47) dX0_proof_46 rfl rfl rfl (by omega) (by decide) ?_
      rw [h1, h2]
      by_cases e1 : eo = 1
      · subst e1
        rw [if_pos rfl]
        refine g_lookup (tgt := 72) dX0_proof_47 (by decide) rfl (by decide) ?_
        refine g_aload_n (i := 0) (pc1 := 73) dX0_proof_72 rfl rfl rfl ?_
        refine g_iload_n (i := 2) (pc1 := 74) dX0_proof_73 rfl rfl rfl ?_
        refine g_iload_n (i := 1) (pc1 := 75) dX0_proof_74 rfl rfl rfl ?_
        refine g_V2 (M := mX0_branch) (pc1 := 78) dX0_proof_75 rfl lkX0_54 tmX0_branch rfl (c_cbranch n nr tn S L1 U L2 L3 P r hg hk hk30 hL hV K col u t dep ex hK hc htl hd hdep) (by show _ ≤ 3 * d + 8; omega) rfl (Nat.le_of_ble_eq_true rfl) (Nat.le_of_ble_eq_true rfl) ?_
        rintro _ _ ⟨K2, rfl, hK2, hle, rfl⟩
        refine g_iret dX0_proof_78 rfl (bI_nar _) (Nat.le_of_ble_eq_true rfl) (Nat.le_of_ble_eq_true rfl) ?_
        exact ⟨K2, rfl, hK2, hle, rfl⟩
      · rw [if_neg e1]
        by_cases e4 : eo = 4
        · subst e4
          rw [if_pos rfl]
          refine g_lookup (tgt := 79) dX0_proof_47 (by decide) rfl (by decide) ?_
          refine g_aload_n (i := 0) (pc1 := 80) dX0_proof_79 rfl rfl rfl ?_
          refine g_aload_n (i := 0) (pc1 := 81) dX0_proof_80 rfl rfl rfl ?_
          refine g_iload_n (i := 2) (pc1 := 82) dX0_proof_81 rfl rfl rfl ?_
          refine g_V1 (M := mX0_closes) (pc1 := 85) dX0_proof_82 rfl lkX0_58 tmX0_closes rfl (c_closes n nr tn K S L1 U L2 L3 P r hg hk (nI k, nI t) rfl hk30 hK ex) (by show _ ≤ 3 * d + 8; omega) rfl (Nat.le_of_ble_eq_true rfl) (Nat.le_of_ble_eq_true rfl) ?_
          rintro _ _ ⟨rfl, rfl⟩
          show aGo _ 85 _ [.int (bI _), .ref 21] _ _ _
          refine g_V1 (M := mX0_stepOverIf) (pc1 := 88) dX0_proof_85 rfl lkX0_61 tmX0_stepOverIf rfl (c_stepOverIf K S L1 U L2 L3 P r (nI n, nr, tn) (nI k) t _) (by show _ ≤ 3 * d + 8; omega) rfl (Nat.le_of_ble_eq_true rfl) (Nat.le_of_ble_eq_true rfl) ?_
          rintro _ _ ⟨rfl, rfl⟩
          refine g_iret dX0_proof_88 rfl (bI_nar _) (Nat.le_of_ble_eq_true rfl) (Nat.le_of_ble_eq_true rfl) ?_
          by_cases hq : cloS n A col k (bt ex) = true
          · rw [if_pos hq, hq]
            exact ⟨K, rfl, hK, by show t + 1 ≤ _; omega, rfl⟩
          · have hq' : cloS n A col k (bt ex) = false := by simpa using hq
            rw [if_neg hq, hq']
            exact ⟨K, rfl, hK, ht, rfl⟩
        · rw [if_neg e4]
          have f1 : ¬ (1 : Int) = eo.toInt := fun q => e1 (Int32.toInt_inj.mp (by rw [← q]; decide))
          have f4 : ¬ (4 : Int) = eo.toInt := fun q => e4 (Int32.toInt_inj.mp (by rw [← q]; decide))
          refine g_lookup (tgt := 89) (off := 42) dX0_proof_47 (by decide) (by
            show Op.lookupswitch.offset [(1, 25), (4, 32)] 42 eo.toInt = 42
            rw [Op.lookupswitch.offset_cons, if_neg f1, Op.lookupswitch.offset_cons, if_neg f4, Op.lookupswitch.offset_nil]) (by decide) ?_
          refine g_iconst (v := 0) (pc1 := 90) dX0_proof_89 rfl (by decide) ?_
          refine g_iret dX0_proof_90 rfl (bI_nar false) (Nat.le_of_ble_eq_true rfl) (Nat.le_of_ble_eq_true rfl) ?_
          exact ⟨K, rfl, hK, ht, rfl⟩
theorem c_wrongLine {A : Nat → Nat → Bool} (hg : hG n nr tn A) (hk : Gok n A) {k : Nat} (hk30 : k ≤ 30) {lg : tLog} (hL : lC L3 lg) (K : tK) (C : Int32 × Int32) : aRet 99 0 0 mX0_wrongLine [.ref 21, .int (nI k)] (cp (nI n, nr, tn) K S L1 U L2 L3 C P r) (fun x g => x = some (.int (ckA n A k lg)) ∧ ∃ (K' : tK) (C' : Int32 × Int32), g = cp (nI n, nr, tn) K' S L1 U L2 L3 C' P r) := by
  have hn := hk.1
  have hl := hL.2.1
  have hb := cnt_le (brP n (fun _ => none)) n
  refine aRet.of (by decide) (Nat.le_of_ble_eq_true rfl) (a_ok2 rfl) ?_
  refine g_aload_n (i := 0) (pc1 := 1) dX0_wrongLine_0 rfl rfl rfl ?_
  refine g_iload_n (i := 1) (pc1 := 2) dX0_wrongLine_1 rfl rfl rfl ?_
  refine g_puti (pc1 := 5) dX0_wrongLine_2 rfl flX0_9 rfl (Nat.le_of_ble_eq_true rfl) rfl rfl ?_
  refine g_aload_n (i := 0) (pc1 := 6) dX0_wrongLine_5 rfl rfl rfl ?_
  refine g_iconst (v := 0) (pc1 := 7) dX0_wrongLine_6 rfl (by decide) ?_
  refine g_puti (pc1 := 10) dX0_wrongLine_7 rfl flX0_15 rfl (Nat.le_of_ble_eq_true rfl) rfl rfl ?_
  refine g_aload_n (i := 0) (pc1 := 11) dX0_wrongLine_10 rfl rfl rfl ?_
  refine g_get (pc1 := 14) dX0_wrongLine_11 rfl flX0_22 rfl rfl ?_
  refine aGo.eq (h' := cp (nI n, nr, tn) K S L1 U L2 L3 (nI k, nI 0) P r) ?_ rfl rfl rfl
  refine g_V0 (M := mX1_wipe) (pc1 := 17) dX0_wrongLine_14 rfl lkX0_30 tmX1_wipe rfl (c_wipe n nr tn K S L1 U L2 L3 (nI k, nI 0) P r hk) (Nat.le_of_ble_eq_true rfl) rfl (Nat.le_of_ble_eq_true rfl) (Nat.le_of_ble_eq_true rfl) ?_
  rintro _ _ ⟨rfl, K1, hK1, rfl⟩
  show aGo _ 17 _ [] _ _ _
  refine g_aload_n (i := 0) (pc1 := 18) dX0_wrongLine_17 rfl rfl rfl ?_
  refine g_iconst (v := 0) (pc1 := 19) dX0_wrongLine_18 rfl (by decide) ?_
  refine g_V1 (M := mX0_proof) (pc1 := 22) dX0_wrongLine_19 rfl lkX0_35 tmX0_proof rfl (c_proof n nr tn S L1 U L2 L3 P r hg hk hk30 hL 31 K1 (fun _ => none) 0 0 0 hK1 (Cok.none n) (Nat.zero_le _) (by omega) (by omega)) (Nat.le_of_ble_eq_true rfl) rfl (Nat.le_of_ble_eq_true rfl) (Nat.le_of_ble_eq_true rfl) ?_
  rintro _ _ ⟨K2, rfl, hK2, hle, rfl⟩
  have hW : pf n A k lg 31 (fun _ => none) 0 0 = pfR n A k lg := rfl
  rw [hW] at hle ⊢
  unfold ckA
  generalize pfR n A k lg = W at *
  obtain ⟨wb, wt⟩ := W
  cases wb with
  | false =>
    refine g_if_eq (pc1 := 25) (tgt := 43) dX0_wrongLine_22 rfl (by decide) (fun _ => ?_) (fun c => absurd rfl c)
    refine g_aload_n (i := 0) (pc1 := 44) dX0_wrongLine_43 rfl rfl rfl ?_
    refine g_get (pc1 := 47) dX0_wrongLine_44 rfl flX0_15 rfl rfl ?_
    refine g_iret dX0_wrongLine_47 rfl rfl (Nat.le_of_ble_eq_true rfl) (Nat.le_of_ble_eq_true rfl) ?_
    exact ⟨by rw [if_neg (fun h => by cases h.1)], K2, _, rfl⟩
  | true =>
    refine g_if_eq (pc1 := 25) (tgt := 43) dX0_wrongLine_22 rfl (by decide) (fun c => absurd c (show ¬ bI true = 0 by decide)) (fun _ => ?_)
    refine g_aload_n (i := 0) (pc1 := 26) dX0_wrongLine_25 rfl rfl rfl ?_
    refine g_get (pc1 := 29) dX0_wrongLine_26 rfl flX0_15 rfl rfl ?_
    refine g_aload_n (i := 0) (pc1 := 30) dX0_wrongLine_29 rfl rfl rfl ?_
    refine g_get (pc1 := 33) dX0_wrongLine_30 rfl flX0_26 rfl rfl ?_
    refine g_get (pc1 := 36) dX0_wrongLine_33 rfl flX0_39 rfl rfl ?_
    rw [hL.1]
    refine g_icmp_ne (pc1 := 39) (tgt := 43) dX0_wrongLine_36 rfl (by decide) (fun c1 => ?_) (fun c1 => ?_)
    · refine g_aload_n (i := 0) (pc1 := 44) dX0_wrongLine_43 rfl rfl rfl ?_
      refine g_get (pc1 := 47) dX0_wrongLine_44 rfl flX0_15 rfl rfl ?_
      refine g_iret dX0_wrongLine_47 rfl rfl (Nat.le_of_ble_eq_true rfl) (Nat.le_of_ble_eq_true rfl) ?_
      exact ⟨by rw [if_neg (fun h => c1 (by rw [show wt = lg.length from h.2]))], K2, _, rfl⟩
    · have : wt = lg.length := (nI_eq (a := wt) (b := lg.length) (by simp only [] at hle; omega) (by omega)).mp c1
      refine g_iconst (v := (-1)) (pc1 := 40) dX0_wrongLine_39 rfl (by decide) ?_
      refine g_goto (tgt := 47) dX0_wrongLine_40 (by decide) ?_
      refine g_iret dX0_wrongLine_47 rfl rfl (Nat.le_of_ble_eq_true rfl) (Nat.le_of_ble_eq_true rfl) ?_
      exact ⟨by rw [if_pos ⟨rfl, this⟩], K2, _, rfl⟩
end
