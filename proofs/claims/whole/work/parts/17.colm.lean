/-! ===== the colouring of the class ===== -/
section
variable (n : Nat) (nr tn : fI) (K : tK) (S : tS) (L1 : tL) (U : tU) (L2 L3 : tL) (C : Int32 × Int32) (P : fI) (r : List aC)
abbrev hG (n : Nat) (nr tn : fI) (A : Nat → Nat → Bool) : Prop := gC (nI n, nr, tn) n A
theorem c_wipe {A : Nat → Nat → Bool} (hk : Gok n A) : aRet 2 0 0 mX1_wipe [.ref 4] (cp (nI n, nr, tn) K S L1 U L2 L3 C P r) (fun v g => v = none ∧ ∃ K' : tK, kC K' n A (fun _ => none) 0 ∧ g = cp (nI n, nr, tn) K' S L1 U L2 L3 C P r) := by
  refine aRet.of (by decide) (Nat.le_of_ble_eq_true rfl) (a_ok2 rfl) ?_
  refine g_aload_n (i := 0) (pc1 := 1) dX1_wipe_0 rfl rfl rfl ?_
  refine g_get (pc1 := 4) dX1_wipe_1 rfl flX1_9 rfl rfl ?_
  refine g_iconst (v := (-1)) (pc1 := 5) dX1_wipe_4 rfl (by decide) ?_
  refine g_S2 (M := mJ7_fill_53178) (pc1 := 8) dX1_wipe_5 rfl lkX1_32 tmJ7_fill_53178 (c_fill (q := 5) (by decide) rfl (-1)) (Nat.le_of_ble_eq_true rfl) rfl (Nat.le_of_ble_eq_true rfl) (Nat.le_of_ble_eq_true rfl) ?_
  rintro _ _ ⟨rfl, rfl⟩
  refine g_aload_n (i := 0) (pc1 := 9) dX1_wipe_8 rfl rfl rfl ?_
  refine g_get (pc1 := 12) dX1_wipe_9 rfl flX1_15 rfl rfl ?_
  refine g_iconst (v := 0) (pc1 := 13) dX1_wipe_12 rfl (by decide) ?_
  refine g_S2 (M := mJ7_fill_53178) (pc1 := 16) dX1_wipe_13 rfl lkX1_32 tmJ7_fill_53178 (c_fill (q := 6) (N := 30) (f := K.2.1) (by decide) rfl 0) (Nat.le_of_ble_eq_true rfl) rfl (Nat.le_of_ble_eq_true rfl) (Nat.le_of_ble_eq_true rfl) ?_
  rintro _ _ ⟨rfl, rfl⟩
  refine g_aload_n (i := 0) (pc1 := 17) dX1_wipe_16 rfl rfl rfl ?_
  refine g_get (pc1 := 20) dX1_wipe_17 rfl flX1_18 rfl rfl ?_
  refine g_iconst (v := 0) (pc1 := 21) dX1_wipe_20 rfl (by decide) ?_
  refine g_S2 (M := mJ7_fill_53178) (pc1 := 24) dX1_wipe_21 rfl lkX1_32 tmJ7_fill_53178 (c_fill (q := 7) (N := 30) (f := K.2.2.1) (by decide) rfl 0) (Nat.le_of_ble_eq_true rfl) rfl (Nat.le_of_ble_eq_true rfl) (Nat.le_of_ble_eq_true rfl) ?_
  rintro _ _ ⟨rfl, rfl⟩
  refine g_aload_n (i := 0) (pc1 := 25) dX1_wipe_24 rfl rfl rfl ?_
  refine g_aload_n (i := 0) (pc1 := 26) dX1_wipe_25 rfl rfl rfl ?_
  refine g_get (pc1 := 29) dX1_wipe_26 rfl flX1_28 rfl rfl ?_
  refine g_V0 (M := mX2_all) (pc1 := 32) dX1_wipe_29 rfl lkX1_38 tmX2_all rfl (c_all (nI n, nr, tn) (fil 30 (-1) K.1, fil 30 0 K.2.1, fil 30 0 K.2.2.1, K.2.2.2.1, K.2.2.2.2) S L1 U L2 L3 C P r hk.1 rfl) (Nat.le_of_ble_eq_true rfl) rfl (Nat.le_of_ble_eq_true rfl) (Nat.le_of_ble_eq_true rfl) ?_
  rintro _ _ ⟨rfl, rfl⟩
  refine g_puti (pc1 := 35) dX1_wipe_32 rfl flX1_21 rfl (Nat.le_of_ble_eq_true rfl) rfl rfl ?_
  refine g_aload_n (i := 0) (pc1 := 36) dX1_wipe_35 rfl rfl rfl ?_
  refine g_iconst (v := 0) (pc1 := 37) dX1_wipe_36 rfl (by decide) ?_
  refine g_puti (pc1 := 40) dX1_wipe_37 rfl flX1_25 rfl (Nat.le_of_ble_eq_true rfl) rfl rfl ?_
  refine g_vret dX1_wipe_40 rfl (Nat.le_of_ble_eq_true rfl) (Nat.le_of_ble_eq_true rfl) ?_
  refine ⟨rfl, (fil 30 (-1) K.1, fil 30 0 K.2.1, fil 30 0 K.2.2.1, bS (fun i => decide (i < n)), 0), ⟨fun v hv => ?_, fun v hv => ?_, fun c hc => ?_, ?_, rfl⟩, rfl⟩
  · simp [fil, hv, enO]
  · show fil 30 0 K.2.1 v = _
    have : hC n A (fun _ => none) v = fun _ => false := by
      funext c
      exact ex_false.mpr fun i _ => by simp
    rw [this, ← bS_0]
    simp [fil, hv]
  · show fil 30 0 K.2.2.1 c = _
    simp only [fil, if_pos hc, reduceCtorEq, decide_false]
    exact bS_0
  · show bS _ = bS _
    exact bS_congr fun i _ => by simp [brP]
set_option maxHeartbeats 1000000 in
theorem c_give {A : Nat → Nat → Bool} (hg : hG n nr tn A) (hk : Gok n A) {col : tCol} {u v c : Nat} (hK : kC K n A col u) (hc : Cok n col u) (hv : v < n) (hn : col v = none) (hcu : c ≤ u) (hc30 : c < 30) : aRet 1 0 0 mX1_give [.ref 4, .int (nI v), .int (nI c)] (cp (nI n, nr, tn) K S L1 U L2 L3 C P r) (fun v' g => v' = none ∧ ∃ K' : tK, kC K' n A (cset col v c) (up1 u c) ∧ g = cp (nI n, nr, tn) K' S L1 U L2 L3 C P r) := by
  have hn30 := hk.1
  obtain ⟨kf, ks, kb, br, st⟩ := K
  obtain ⟨h1, h2, h3, h4, h5⟩ := hK
  dsimp only at h1 h2 h3 h4 h5
  subst h4
  subst h5
  have key : aGo (1, 0, 0, mX1_give, none, fun v' g => v' = none ∧ ∃ K' : tK, kC K' n A (cset col v c) (up1 u c) ∧ g = cp (nI n, nr, tn) K' S L1 U L2 L3 C P r) 19 [.ref 4, .int (nI v), .int (nI c), .null] [] (cp (nI n, nr, tn) (kf, ks, kb, bS (brP n col), nI (up1 u c)) S L1 U L2 L3 C P r) 0 0 := by
    refine g_aload_n (i := 0) (pc1 := 20) dX1_give_19 rfl rfl rfl ?_
    refine g_get (pc1 := 23) dX1_give_20 rfl flX1_9 rfl rfl ?_
    refine g_iload_n (i := 1) (pc1 := 24) dX1_give_23 rfl rfl rfl ?_
    refine g_iload_n (i := 2) (pc1 := 25) dX1_give_24 rfl rfl rfl ?_
    refine g_iastJ (pc1 := 26) dX1_give_25 rfl rfl rfl (by omega) (by decide) ?_
    refine g_aload_n (i := 0) (pc1 := 27) dX1_give_26 rfl rfl rfl ?_
    refine g_get (pc1 := 30) dX1_give_27 rfl flX1_18 rfl rfl ?_
    refine g_iload_n (i := 2) (pc1 := 31) dX1_give_30 rfl rfl rfl ?_
    refine g_dup2 (pc1 := 32) dX1_give_31 rfl rfl rfl ?_
    refine g_ialdJ (pc1 := 33) dX1_give_32 rfl rfl rfl (by omega) (by decide) ?_
    refine g_iconst (v := 1) (pc1 := 34) dX1_give_33 rfl (by decide) ?_
    refine g_iload_n (i := 1) (pc1 := 35) dX1_give_34 rfl rfl rfl ?_
    refine g_ishl (pc1 := 36) dX1_give_35 rfl ?_
    refine g_ior (pc1 := 37) dX1_give_36 rfl ?_
    refine g_iastJ (pc1 := 38) dX1_give_37 rfl rfl rfl (by omega) (by decide) ?_
    refine g_aload_n (i := 0) (pc1 := 39) dX1_give_38 rfl rfl rfl ?_
    refine g_dup (pc1 := 40) dX1_give_39 rfl rfl ?_
    refine g_get (pc1 := 43) dX1_give_40 rfl flX1_21 rfl rfl ?_
    refine g_iconst (v := 1) (pc1 := 44) dX1_give_43 rfl (by decide) ?_
    refine g_iload_n (i := 1) (pc1 := 45) dX1_give_44 rfl rfl rfl ?_
    refine g_ishl (pc1 := 46) dX1_give_45 rfl ?_
    refine g_iconst (v := (-1)) (pc1 := 47) dX1_give_46 rfl (by decide) ?_
    refine g_ixor (pc1 := 48) dX1_give_47 rfl ?_
    refine g_iand (pc1 := 49) dX1_give_48 rfl ?_
    refine g_puti (pc1 := 52) dX1_give_49 rfl flX1_21 rfl (Nat.le_of_ble_eq_true rfl) rfl rfl ?_
    refine g_iconst (v := 0) (pc1 := 53) dX1_give_52 rfl (by decide) ?_
    refine g_istore_n (i := 3) (pc1 := 54) dX1_give_53 rfl rfl (Nat.le_of_ble_eq_true rfl) ?_
    rw [bS_bit (j := v) (by omega), bS_not, bS_and]
    refine aGo.eq (h' := cp (nI n, nr, tn) (upd kf v (nI c), fun x => if x < 0 ∧ A v x = true then ks x ||| bS (fun i => decide (i = c)) else ks x, upd kb c (kb c ||| bS (fun i => decide (i = v))), bS (fun i => brP n col i && !decide (i = v)), nI (up1 u c)) S L1 U L2 L3 C P r) ?_ rfl rfl (by
      have : (fun x => if x < 0 ∧ A v x = true then ks x ||| bS (fun i => decide (i = c)) else ks x) = ks := by funext x; simp
      rw [this]; rfl)
    refine down0 (P := fun w => aGo _ 54 [.ref 4, .int (nI v), .int (nI c), .int (nI w)] [] (cp (nI n, nr, tn) (upd kf v (nI c), fun x => if x < w ∧ A v x = true then ks x ||| bS (fun i => decide (i = c)) else ks x, upd kb c (kb c ||| bS (fun i => decide (i = v))), bS (fun i => brP n col i && !decide (i = v)), nI (up1 u c)) S L1 U L2 L3 C P r) 0 0) n ?_ ?_
    · refine g_iload_n (i := 3) (pc1 := 55) dX1_give_54 rfl rfl rfl ?_
      refine g_aload_n (i := 0) (pc1 := 56) dX1_give_55 rfl rfl rfl ?_
      refine g_get (pc1 := 59) dX1_give_56 rfl flX1_28 rfl rfl ?_
      refine g_get (pc1 := 62) dX1_give_59 rfl flX1_44 rfl rfl ?_
      refine g_icmp_ge (pc1 := 65) (tgt := 99) dX1_give_62 rfl (by decide) (fun _ => ?_) (fun c => absurd (Int32.le_refl _) c)
      refine g_vret dX1_give_99 rfl (Nat.le_of_ble_eq_true rfl) (Nat.le_of_ble_eq_true rfl) ?_
      refine ⟨rfl, _, ⟨fun w hw => ?_, fun w hw => ?_, fun d hd => ?_, ?_, rfl⟩, rfl⟩
      · show upd kf v (nI c) w = enO (cset col v c w)
        by_cases hwv : w = v
        · subst hwv; rw [pk_us]; simp [cset, enO]
        · rw [pk_un hwv, h1 w hw]; simp [cset, hwv]
      · show (if w < n ∧ A v w = true then ks w ||| bS (fun i => decide (i = c)) else ks w) = _
        rw [h2 w hw]
        by_cases ha : A v w = true
        · rw [if_pos ⟨(hk.2.2.2 v w ha).2, ha⟩, bS_or]
          refine bS_congr fun d _ => ?_
          rw [hC_set hv hn, hk.2.1 w v, ha, Bool.true_and]
        · rw [if_neg (fun h => ha h.2)]
          refine bS_congr fun d _ => ?_
          rw [hC_set hv hn, hk.2.1 w v, show A v w = false by simpa using ha]; simp
      · show upd kb c (kb c ||| bS (fun i => decide (i = v))) d = _
        by_cases hdc : d = c
        · subst hdc
          rw [pk_us, h3 d hd, bS_or]
          refine bS_congr fun w _ => ?_
          by_cases hwv : w = v
          · subst hwv; simp [cset]
          · simp [cset, hwv]
        · rw [pk_un hdc, h3 d hd]
          refine bS_congr fun w _ => ?_
          by_cases hwv : w = v
          · subst hwv; simp [cset, hn, Ne.symm hdc]
          · simp [cset, hwv]
      · show bS _ = bS _
        exact bS_congr fun w _ => (brP_set w).symm
    · intro w hw ih
      refine g_iload_n (i := 3) (pc1 := 55) dX1_give_54 rfl rfl rfl ?_
      refine g_aload_n (i := 0) (pc1 := 56) dX1_give_55 rfl rfl rfl ?_
      refine g_get (pc1 := 59) dX1_give_56 rfl flX1_28 rfl rfl ?_
      refine g_get (pc1 := 62) dX1_give_59 rfl flX1_44 rfl rfl ?_
      refine g_icmp_ge (pc1 := 65) (tgt := 99) dX1_give_62 rfl (by decide) (fun c => absurd c (fun c => absurd ((nI_leI (a := n) (b := w) (by omega) (by omega)).mp c) (by omega))) (fun _ => ?_)
      refine g_aload_n (i := 0) (pc1 := 66) dX1_give_65 rfl rfl rfl ?_
      refine g_get (pc1 := 69) dX1_give_66 rfl flX1_28 rfl rfl ?_
      refine g_get (pc1 := 72) dX1_give_69 rfl flX1_47 rfl rfl ?_
      refine g_iload_n (i := 1) (pc1 := 73) dX1_give_72 rfl rfl rfl ?_
      refine g_ialdJ (pc1 := 74) dX1_give_73 rfl rfl rfl (by omega) (by decide) ?_
      refine g_iload_n (i := 3) (pc1 := 75) dX1_give_74 rfl rfl rfl ?_
      refine g_SN2 (M := mX7_contains) (pc1 := 78) dX1_give_75 rfl ⟨rfl, lnX1_50⟩ tmX7_contains (c_contains (nr v) (j := w) (by omega)) (Nat.le_of_ble_eq_true rfl) rfl (Nat.le_of_ble_eq_true rfl) (Nat.le_of_ble_eq_true rfl) ?_
      rintro _ _ ⟨rfl, rfl⟩
      rw [show bt (nr v) w = A v w from hg.2 v (by omega) w]
      have hnx : ∀ f : fI, f = (fun x => if x < w + 1 ∧ A v x = true then ks x ||| bS (fun i => decide (i = c)) else ks x) → aGo (1, 0, 0, mX1_give, none, fun v' g => v' = none ∧ ∃ K' : tK, kC K' n A (cset col v c) (up1 u c) ∧ g = cp (nI n, nr, tn) K' S L1 U L2 L3 C P r) 93 [.ref 4, .int (nI v), .int (nI c), .int (nI w)] [] (cp (nI n, nr, tn) (upd kf v (nI c), f, upd kb c (kb c ||| bS (fun i => decide (i = v))), bS (fun i => brP n col i && !decide (i = v)), nI (up1 u c)) S L1 U L2 L3 C P r) 0 0 := by
        rintro f rfl
        refine g_iinc (pc1 := 96) dX1_give_93 rfl rfl rfl ?_
        refine g_goto (tgt := 54) dX1_give_96 (by decide) ?_
        refine aGo.eq ih ?_ rfl rfl
        show [Value.ref 4, .int (nI v), .int (nI c), .int (nI w + Int32.ofInt 1)] = _
        rw [show nI w + Int32.ofInt 1 = nI (w + 1) from nI_1 w]
      refine g_if_eq (pc1 := 81) (tgt := 93) dX1_give_78 rfl (by decide) (fun c9 => ?_) (fun c9 => ?_)
      · rw [bI_eq0] at c9
        refine hnx _ ?_
        funext x
        by_cases hxw : x = w
        · subst hxw; simp [c9]
        · by_cases h6 : x < w
          · simp [h6, show x < w + 1 by omega]
          · simp [h6, show ¬ x < w + 1 by omega]
      · rw [bI_ne0] at c9
        refine g_aload_n (i := 0) (pc1 := 82) dX1_give_81 rfl rfl rfl ?_
        refine g_get (pc1 := 85) dX1_give_82 rfl flX1_15 rfl rfl ?_
        refine g_iload_n (i := 3) (pc1 := 86) dX1_give_85 rfl rfl rfl ?_
        refine g_dup2 (pc1 := 87) dX1_give_86 rfl rfl rfl ?_
        refine g_ialdJ (pc1 := 88) dX1_give_87 rfl rfl rfl (by omega) (by decide) ?_
        refine g_iconst (v := 1) (pc1 := 89) dX1_give_88 rfl (by decide) ?_
        refine g_iload_n (i := 2) (pc1 := 90) dX1_give_89 rfl rfl rfl ?_
        refine g_ishl (pc1 := 91) dX1_give_90 rfl ?_
        refine g_ior (pc1 := 92) dX1_give_91 rfl ?_
        refine g_iastJ (pc1 := 93) dX1_give_92 rfl rfl rfl (by omega) (by decide) ?_
        rw [bS_bit (j := c) (by omega)]
        refine aGo.eq (hnx (upd (fun x => if x < w ∧ A v x = true then ks x ||| bS (fun i => decide (i = c)) else ks x) w ((if w < w ∧ A v w = true then ks w ||| bS (fun i => decide (i = c)) else ks w) ||| bS (fun i => decide (i = c)))) ?_) rfl rfl rfl
        funext x
        by_cases hxw : x = w
        · subst hxw; simp [upd, c9]
        · by_cases h6 : x < w
          · simp [upd, hxw, h6, show x < w + 1 by omega]
          · simp [upd, hxw, h6, show ¬ x < w + 1 by omega]
  refine aRet.of (by decide) (Nat.le_of_ble_eq_true rfl) (a_ok2 rfl) ?_
  refine g_aload_n (i := 0) (pc1 := 1) dX1_give_0 rfl rfl rfl ?_
  refine g_get (pc1 := 4) dX1_give_1 rfl flX1_18 rfl rfl ?_
  refine g_iload_n (i := 2) (pc1 := 5) dX1_give_4 rfl rfl rfl ?_
  refine g_ialdJ (pc1 := 6) dX1_give_5 rfl rfl rfl (by omega) (by decide) ?_
  rw [show (kf, ks, kb, bS (brP n col), nI u).2.2.1 c = bS (fun v => decide (col v = some c)) from h3 c hc30]
  refine g_if_ne (pc1 := 9) (tgt := 19) dX1_give_6 rfl (by decide) (fun c9 => ?_) (fun c9 => ?_)
  · have := ex_some hc c c9
    rw [show up1 u c = u by unfold up1; rw [if_pos this]] at key ⊢
    exact key
  · have := ex_none hc c c9 (by omega)
    rw [show up1 u c = u + 1 by unfold up1; rw [if_neg this]] at key ⊢
    refine g_aload_n (i := 0) (pc1 := 10) dX1_give_9 rfl rfl rfl ?_
    refine g_dup (pc1 := 11) dX1_give_10 rfl rfl ?_
    refine g_get (pc1 := 14) dX1_give_11 rfl flX1_25 rfl rfl ?_
    refine g_iconst (v := 1) (pc1 := 15) dX1_give_14 rfl (by decide) ?_
    refine g_iadd (pc1 := 16) dX1_give_15 rfl ?_
    refine g_puti (pc1 := 19) dX1_give_16 rfl flX1_25 rfl (Nat.le_of_ble_eq_true rfl) rfl rfl ?_
    rw [← nI_1] at key
    exact key
set_option maxHeartbeats 1000000 in
theorem c_strip {A : Nat → Nat → Bool} (hg : hG n nr tn A) (hk : Gok n A) {col : tCol} {u v c : Nat} (hK : kC K n A (cset col v c) (up1 u c)) (hc : Cok n col u) (hv : v < n) (hn : col v = none) (hcu : c ≤ u) (hc30 : c < 30) : aRet 1 0 0 mX1_strip [.ref 4, .int (nI v), .int (nI c)] (cp (nI n, nr, tn) K S L1 U L2 L3 C P r) (fun v' g => v' = none ∧ ∃ K' : tK, kC K' n A col u ∧ g = cp (nI n, nr, tn) K' S L1 U L2 L3 C P r) := by
  have hn30 := hk.1
  obtain ⟨kf, ks, kb, br, st⟩ := K
  obtain ⟨h1, h2, h3, h4, h5⟩ := hK
  dsimp only at h1 h2 h3 h4 h5
  subst h4
  subst h5
  have hb : kb c &&& bS (fun i => !decide (i = v)) = bS (fun w => decide (col w = some c)) := by
    rw [h3 c hc30, bS_and]
    refine bS_congr fun w _ => ?_
    by_cases hwv : w = v
    · subst hwv; simp [hn]
    · simp [cset, hwv]
  have hbr : bS (brP n (cset col v c)) ||| bS (fun i => decide (i = v)) = bS (brP n col) := by
    rw [bS_or]
    refine bS_congr fun w _ => ?_
    rw [brP_set]
    by_cases hwv : w = v
    · subst hwv; simp [brP, hv, hn]
    · simp [hwv]
  refine aRet.of (by decide) (Nat.le_of_ble_eq_true rfl) (a_ok2 rfl) ?_
  refine g_aload_n (i := 0) (pc1 := 1) dX1_strip_0 rfl rfl rfl ?_
  refine g_get (pc1 := 4) dX1_strip_1 rfl flX1_9 rfl rfl ?_
  refine g_iload_n (i := 1) (pc1 := 5) dX1_strip_4 rfl rfl rfl ?_
  refine g_iconst (v := (-1)) (pc1 := 6) dX1_strip_5 rfl (by decide) ?_
  refine g_iastJ (pc1 := 7) dX1_strip_6 rfl rfl rfl (by omega) (by decide) ?_
  refine g_aload_n (i := 0) (pc1 := 8) dX1_strip_7 rfl rfl rfl ?_
  refine g_get (pc1 := 11) dX1_strip_8 rfl flX1_18 rfl rfl ?_
  refine g_iload_n (i := 2) (pc1 := 12) dX1_strip_11 rfl rfl rfl ?_
  refine g_dup2 (pc1 := 13) dX1_strip_12 rfl rfl rfl ?_
  refine g_ialdJ (pc1 := 14) dX1_strip_13 rfl rfl rfl (by omega) (by decide) ?_
  refine g_iconst (v := 1) (pc1 := 15) dX1_strip_14 rfl (by decide) ?_
  refine g_iload_n (i := 1) (pc1 := 16) dX1_strip_15 rfl rfl rfl ?_
  refine g_ishl (pc1 := 17) dX1_strip_16 rfl ?_
  refine g_iconst (v := (-1)) (pc1 := 18) dX1_strip_17 rfl (by decide) ?_
  refine g_ixor (pc1 := 19) dX1_strip_18 rfl ?_
  refine g_iand (pc1 := 20) dX1_strip_19 rfl ?_
  refine g_iastJ (pc1 := 21) dX1_strip_20 rfl rfl rfl (by omega) (by decide) ?_
  refine g_aload_n (i := 0) (pc1 := 22) dX1_strip_21 rfl rfl rfl ?_
  refine g_dup (pc1 := 23) dX1_strip_22 rfl rfl ?_
  refine g_get (pc1 := 26) dX1_strip_23 rfl flX1_21 rfl rfl ?_
  refine g_iconst (v := 1) (pc1 := 27) dX1_strip_26 rfl (by decide) ?_
  refine g_iload_n (i := 1) (pc1 := 28) dX1_strip_27 rfl rfl rfl ?_
  refine g_ishl (pc1 := 29) dX1_strip_28 rfl ?_
  refine g_ior (pc1 := 30) dX1_strip_29 rfl ?_
  refine g_puti (pc1 := 33) dX1_strip_30 rfl flX1_21 rfl (Nat.le_of_ble_eq_true rfl) rfl rfl ?_
  refine g_iconst (v := 0) (pc1 := 34) dX1_strip_33 rfl (by decide) ?_
  refine g_istore_n (i := 3) (pc1 := 35) dX1_strip_34 rfl rfl (Nat.le_of_ble_eq_true rfl) ?_
  rw [bS_bit (j := v) (by omega), bS_not]
  refine aGo.eq (ls' := [.ref 4, .int (nI v), .int (nI c), .int (nI 0)]) (h' := cp (nI n, nr, tn) (upd kf v (-1), fun x => if x < 0 ∧ A v x = true ∧ hC n A col x c = false then ks x &&& bS (fun i => !decide (i = c)) else ks x, upd kb c (bS (fun w => decide (col w = some c))), bS (brP n col), nI (up1 u c)) S L1 U L2 L3 C P r) ?_ rfl rfl (by
    have : (fun x => if x < 0 ∧ A v x = true ∧ hC n A col x c = false then ks x &&& bS (fun i => !decide (i = c)) else ks x) = ks := by funext x; simp
    rw [this, ← hb, ← hbr]; rfl)
  refine down0 (P := fun w => aGo _ 35 [.ref 4, .int (nI v), .int (nI c), .int (nI w)] [] (cp (nI n, nr, tn) (upd kf v (-1), fun x => if x < w ∧ A v x = true ∧ hC n A col x c = false then ks x &&& bS (fun i => !decide (i = c)) else ks x, upd kb c (bS (fun w => decide (col w = some c))), bS (brP n col), nI (up1 u c)) S L1 U L2 L3 C P r) 0 0) n ?_ ?_
  · refine g_iload_n (i := 3) (pc1 := 36) dX1_strip_35 rfl rfl rfl ?_
    refine g_aload_n (i := 0) (pc1 := 37) dX1_strip_36 rfl rfl rfl ?_
    refine g_get (pc1 := 40) dX1_strip_37 rfl flX1_28 rfl rfl ?_
    refine g_get (pc1 := 43) dX1_strip_40 rfl flX1_44 rfl rfl ?_
    refine g_icmp_ge (pc1 := 46) (tgt := 101) dX1_strip_43 rfl (by decide) (fun _ => ?_) (fun c => absurd (Int32.le_refl _) c)
    refine g_aload_n (i := 0) (pc1 := 102) dX1_strip_101 rfl rfl rfl ?_
    refine g_get (pc1 := 105) dX1_strip_102 rfl flX1_18 rfl rfl ?_
    refine g_iload_n (i := 2) (pc1 := 106) dX1_strip_105 rfl rfl rfl ?_
    refine g_ialdJ (pc1 := 107) dX1_strip_106 rfl rfl rfl (by omega) (by decide) ?_
    dsimp only
    rw [show upd kb c (bS (fun w => decide (col w = some c))) c = bS (fun w => decide (col w = some c)) from pk_us]
    have fin : kC (upd kf v (-1), fun x => if x < n ∧ A v x = true ∧ hC n A col x c = false then ks x &&& bS (fun i => !decide (i = c)) else ks x, upd kb c (bS (fun w => decide (col w = some c))), bS (brP n col), nI u) n A col u := by
      refine ⟨fun w hw => ?_, fun w hw => ?_, fun d hd => ?_, rfl, rfl⟩
      · show upd kf v (-1) w = enO (col w)
        by_cases hwv : w = v
        · subst hwv; rw [pk_us, hn]; rfl
        · rw [pk_un hwv, h1 w hw]; simp [cset, hwv]
      · show (if w < n ∧ A v w = true ∧ hC n A col w c = false then ks w &&& bS (fun i => !decide (i = c)) else ks w) = _
        rw [h2 w hw]
        by_cases ha : A v w = true ∧ hC n A col w c = false
        · rw [if_pos ⟨(hk.2.2.2 v w ha.1).2, ha⟩, bS_and]
          refine bS_congr fun d _ => ?_
          rw [hC_set hv hn]
          by_cases hd : d = c
          · subst hd; rw [ha.2]; simp
          · simp [hd]
        · rw [if_neg (fun h => ha h.2)]
          refine bS_congr fun d _ => ?_
          rw [hC_set hv hn, hk.2.1 w v]
          by_cases hd : d = c
          · subst hd
            by_cases h6 : A v w = true
            · have : hC n A col w d = true := by
                cases h7 : hC n A col w d with
                | true => rfl
                | false => exact absurd ⟨h6, h7⟩ ha
              rw [this]; simp
            · rw [show A v w = false by simpa using h6]; simp
          · simp [hd]
      · show upd kb c (bS (fun w => decide (col w = some c))) d = _
        by_cases hdc : d = c
        · subst hdc; rw [pk_us]
        · rw [pk_un hdc, h3 d hd]
          refine bS_congr fun w _ => ?_
          by_cases hwv : w = v
          · subst hwv; simp [cset, hn, Ne.symm hdc]
          · simp [cset, hwv]
    refine g_if_ne (pc1 := 110) (tgt := 120) dX1_strip_107 rfl (by decide) (fun c9 => ?_) (fun c9 => ?_)
    · have := ex_some hc c c9
      refine g_vret dX1_strip_120 rfl (Nat.le_of_ble_eq_true rfl) (Nat.le_of_ble_eq_true rfl) ?_
      refine ⟨rfl, _, fin, ?_⟩
      rw [show up1 u c = u by unfold up1; rw [if_pos this]]
    · have := ex_none hc c c9 (by omega)
      refine g_aload_n (i := 0) (pc1 := 111) dX1_strip_110 rfl rfl rfl ?_
      refine g_dup (pc1 := 112) dX1_strip_111 rfl rfl ?_
      refine g_get (pc1 := 115) dX1_strip_112 rfl flX1_25 rfl rfl ?_
      refine g_iconst (v := 1) (pc1 := 116) dX1_strip_115 rfl (by decide) ?_
      refine g_isub (pc1 := 117) dX1_strip_116 rfl ?_
      refine g_puti (pc1 := 120) dX1_strip_117 rfl flX1_25 rfl (Nat.le_of_ble_eq_true rfl) rfl rfl ?_
      refine g_vret dX1_strip_120 rfl (Nat.le_of_ble_eq_true rfl) (Nat.le_of_ble_eq_true rfl) ?_
      refine ⟨rfl, _, fin, ?_⟩
      rw [show up1 u c = u + 1 by unfold up1; rw [if_neg this]]
      show cp (nI n, nr, tn) (_, _, _, _, nI (u + 1) - 1) S L1 U L2 L3 C P r = _
      rw [nI_pred]
  · intro w hw ih
    refine g_iload_n (i := 3) (pc1 := 36) dX1_strip_35 rfl rfl rfl ?_
    refine g_aload_n (i := 0) (pc1 := 37) dX1_strip_36 rfl rfl rfl ?_
    refine g_get (pc1 := 40) dX1_strip_37 rfl flX1_28 rfl rfl ?_
    refine g_get (pc1 := 43) dX1_strip_40 rfl flX1_44 rfl rfl ?_
    refine g_icmp_ge (pc1 := 46) (tgt := 101) dX1_strip_43 rfl (by decide) (fun c => absurd c (fun c => absurd ((nI_leI (a := n) (b := w) (by omega) (by omega)).mp c) (by omega))) (fun _ => ?_)
    refine g_aload_n (i := 0) (pc1 := 47) dX1_strip_46 rfl rfl rfl ?_
    refine g_get (pc1 := 50) dX1_strip_47 rfl flX1_28 rfl rfl ?_
    refine g_get (pc1 := 53) dX1_strip_50 rfl flX1_47 rfl rfl ?_
    refine g_iload_n (i := 1) (pc1 := 54) dX1_strip_53 rfl rfl rfl ?_
    refine g_ialdJ (pc1 := 55) dX1_strip_54 rfl rfl rfl (by omega) (by decide) ?_
    refine g_iload_n (i := 3) (pc1 := 56) dX1_strip_55 rfl rfl rfl ?_
    refine g_SN2 (M := mX7_contains) (pc1 := 59) dX1_strip_56 rfl ⟨rfl, lnX1_50⟩ tmX7_contains (c_contains (nr v) (j := w) (by omega)) (Nat.le_of_ble_eq_true rfl) rfl (Nat.le_of_ble_eq_true rfl) (Nat.le_of_ble_eq_true rfl) ?_
    rintro _ _ ⟨rfl, rfl⟩
    rw [show bt (nr v) w = A v w from hg.2 v (by omega) w]
    have hnx : ∀ f : fI, f = (fun x => if x < w + 1 ∧ A v x = true ∧ hC n A col x c = false then ks x &&& bS (fun i => !decide (i = c)) else ks x) → aGo (1, 0, 0, mX1_strip, none, fun v' g => v' = none ∧ ∃ K' : tK, kC K' n A col u ∧ g = cp (nI n, nr, tn) K' S L1 U L2 L3 C P r) 95 [.ref 4, .int (nI v), .int (nI c), .int (nI w)] [] (cp (nI n, nr, tn) (upd kf v (-1), f, upd kb c (bS (fun w => decide (col w = some c))), bS (brP n col), nI (up1 u c)) S L1 U L2 L3 C P r) 0 0 := by
      rintro f rfl
      refine g_iinc (pc1 := 98) dX1_strip_95 rfl rfl rfl ?_
      refine g_goto (tgt := 35) dX1_strip_98 (by decide) ?_
      refine aGo.eq ih ?_ rfl rfl
      show [Value.ref 4, .int (nI v), .int (nI c), .int (nI w + Int32.ofInt 1)] = _
      rw [show nI w + Int32.ofInt 1 = nI (w + 1) from nI_1 w]
    refine g_if_eq (pc1 := 62) (tgt := 95) dX1_strip_59 rfl (by decide) (fun c9 => ?_) (fun c9 => ?_)
    · rw [bI_eq0] at c9
      refine hnx _ ?_
      funext x
      by_cases hxw : x = w
      · subst hxw; simp [c9]
      · by_cases h6 : x < w
        · simp [h6, show x < w + 1 by omega]
        · simp [h6, show ¬ x < w + 1 by omega]
    · rw [bI_ne0] at c9
      refine g_aload_n (i := 0) (pc1 := 63) dX1_strip_62 rfl rfl rfl ?_
      refine g_get (pc1 := 66) dX1_strip_63 rfl flX1_28 rfl rfl ?_
      refine g_get (pc1 := 69) dX1_strip_66 rfl flX1_47 rfl rfl ?_
      refine g_iload_n (i := 3) (pc1 := 70) dX1_strip_69 rfl rfl rfl ?_
      refine g_ialdJ (pc1 := 71) dX1_strip_70 rfl rfl rfl (by omega) (by decide) ?_
      refine g_aload_n (i := 0) (pc1 := 72) dX1_strip_71 rfl rfl rfl ?_
      refine g_get (pc1 := 75) dX1_strip_72 rfl flX1_18 rfl rfl ?_
      refine g_iload_n (i := 2) (pc1 := 76) dX1_strip_75 rfl rfl rfl ?_
      refine g_ialdJ (pc1 := 77) dX1_strip_76 rfl rfl rfl (by omega) (by decide) ?_
      refine g_iand (pc1 := 78) dX1_strip_77 rfl ?_
      dsimp only
      rw [show upd kb c (bS (fun w => decide (col w = some c))) c = bS (fun w => decide (col w = some c)) from pk_us, show nr w = bS (A w) from hg.row (v := w) (by omega), bS_and]
      have hz : bS (fun i => A w i && decide (col i = some c)) = 0 ↔ hC n A col w c = false := by
        rw [bS_eq0]
        unfold hC
        rw [ex_false]
        constructor
        · exact fun h i hi => h i (by omega)
        · intro h i _
          by_cases hi : i < n
          · exact h i hi
          · rw [hk.out (by omega)]; rfl
      refine g_if_ne (pc1 := 81) (tgt := 95) dX1_strip_78 rfl (by decide) (fun c8 => ?_) (fun c8 => ?_)
      · have h8 : hC n A col w c = true := by
          cases h9 : hC n A col w c with
          | true => rfl
          | false => exact absurd (hz.mpr h9) c8
        refine hnx _ ?_
        funext x
        by_cases hxw : x = w
        · subst hxw; simp [h8]
        · by_cases h6 : x < w
          · simp [h6, show x < w + 1 by omega]
          · simp [h6, show ¬ x < w + 1 by omega]
      · have h8 := hz.mp c8
        refine g_aload_n (i := 0) (pc1 := 82) dX1_strip_81 rfl rfl rfl ?_
        refine g_get (pc1 := 85) dX1_strip_82 rfl flX1_15 rfl rfl ?_
        refine g_iload_n (i := 3) (pc1 := 86) dX1_strip_85 rfl rfl rfl ?_
        refine g_dup2 (pc1 := 87) dX1_strip_86 rfl rfl rfl ?_
        refine g_ialdJ (pc1 := 88) dX1_strip_87 rfl rfl rfl (by omega) (by decide) ?_
        refine g_iconst (v := 1) (pc1 := 89) dX1_strip_88 rfl (by decide) ?_
        refine g_iload_n (i := 2) (pc1 := 90) dX1_strip_89 rfl rfl rfl ?_
        refine g_ishl (pc1 := 91) dX1_strip_90 rfl ?_
        refine g_iconst (v := (-1)) (pc1 := 92) dX1_strip_91 rfl (by decide) ?_
        refine g_ixor (pc1 := 93) dX1_strip_92 rfl ?_
        refine g_iand (pc1 := 94) dX1_strip_93 rfl ?_
        refine g_iastJ (pc1 := 95) dX1_strip_94 rfl rfl rfl (by omega) (by decide) ?_
        rw [bS_bit (j := c) (by omega), bS_not]
        refine aGo.eq (hnx (upd (fun x => if x < w ∧ A v x = true ∧ hC n A col x c = false then ks x &&& bS (fun i => !decide (i = c)) else ks x) w ((if w < w ∧ A v w = true ∧ hC n A col w c = false then ks w &&& bS (fun i => !decide (i = c)) else ks w) &&& bS (fun i => !decide (i = c)))) ?_) rfl rfl rfl
        funext x
        by_cases hxw : x = w
        · subst hxw; simp [upd, c9, h8]
        · by_cases h6 : x < w
          · simp [upd, hxw, h6, show x < w + 1 by omega]
          · simp [upd, hxw, h6, show ¬ x < w + 1 by omega]
end
