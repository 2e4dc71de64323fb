/-! ===== solving ===== -/
def srR (n : Nat) (A : Nat → Nat → Bool) (k : Nat) : tR := vis n A k 31 (fun _ => none) 0 []
def cq (n : Nat) (A : Nat → Nat → Bool) : Nat := cnt (clqR A n) 32
abbrev tT : Type := Nat × Nat × Nat × Nat × Nat
def tly (t : tT) (R : tR) : tT := (t.1 + 1, t.2.1 + R.2.1.length, t.2.2.1 + opc 1 R.2.1, t.2.2.2.1 + opc 4 R.2.1, t.2.2.2.2 + (if R.1 = 1 then 1 else 0))
/-- how solving ends, the best colouring with its number of colours, the last log, the tallies -/
abbrev tV : Type := Nat × (tCol × Nat) × tLog × tT
def sv (n : Nat) (A : Nat → Nat → Bool) : Nat → tCol × Nat → tT → tV
  | 0, b, t => (1, b, [], t)
  | m + 1, b, t => if cq n A < b.2 then
      (if (srR n A (b.2 - 1)).1 = 1 then sv n A m (srR n A (b.2 - 1)).2.2 (tly t (srR n A (b.2 - 1)))
      else ((srR n A (b.2 - 1)).1, b, (srR n A (b.2 - 1)).2.1, tly t (srR n A (b.2 - 1))))
    else (1, b, [], t)
def svR (n : Nat) (A : Nat → Nat → Bool) : tV := sv n A 30 (fgS n A n) (0, 0, 0, 0, 0)
/-- THE LOG -/
def svL (n : Nat) (A : Nat → Nat → Bool) : tLog := if (svR n A).1 = 0 then (svR n A).2.2.1 else if bS (clqR A n) = 0 then [] else [(4, bS (clqR A n))]
theorem brl_found {rec : tCol → Nat → tLog → tR} {n : Nat} {A : Nat → Nat → Bool} {k : Nat} {col : tCol} {u v : Nat} (hu : u ≤ k) (hk30 : k ≤ 30) (hc : Cok n col u) (hv : v < n) (hv0 : col v = none) (hrec : ∀ col u lg, u ≤ k → Cok n col u → (rec col u lg).1 = 1 → Cok n (rec col u lg).2.2.1 (rec col u lg).2.2.2 ∧ (rec col u lg).2.2.2 ≤ k ∧ chS n A (rec col u lg).2.2.1 = none) : ∀ (m c : Nat) (lg : tLog), (brl rec n A k col u v m c lg).1 = 1 → Cok n (brl rec n A k col u v m c lg).2.2.1 (brl rec n A k col u v m c lg).2.2.2 ∧ (brl rec n A k col u v m c lg).2.2.2 ≤ k ∧ chS n A (brl rec n A k col u v m c lg).2.2.1 = none
  | 0, _, _, h => by cases h
  | m + 1, c, lg, h => by
    unfold brl at h ⊢
    by_cases h1 : c < k ∧ c ≤ u
    · rw [if_pos h1] at h ⊢
      by_cases h2 : lg.length < 3000
      · rw [if_pos h2] at h ⊢
        by_cases h3 : hC n A col v c = true
        · rw [if_pos h3] at h ⊢
          exact brl_found hu hk30 hc hv hv0 hrec m _ _ h
        · rw [if_neg h3] at h ⊢
          by_cases h4 : (rec (cset col v c) (up1 u c) (lg ++ [(3, nI c)])).1 = 0
          · rw [if_pos h4] at h ⊢
            exact brl_found hu hk30 hc hv hv0 hrec m _ _ h
          · rw [if_neg h4] at h ⊢
            exact hrec _ _ _ (by unfold up1; split <;> omega) (hc.set hv hv0 h1.2 (by omega)) h
      · rw [if_neg h2] at h; cases h
    · rw [if_neg h1] at h; cases h
theorem vis_found {n : Nat} {A : Nat → Nat → Bool} {k : Nat} (hk30 : k ≤ 30) : ∀ (d : Nat) (col : tCol) (u : Nat) (lg : tLog), u ≤ k → Cok n col u → (vis n A k d col u lg).1 = 1 → Cok n (vis n A k d col u lg).2.2.1 (vis n A k d col u lg).2.2.2 ∧ (vis n A k d col u lg).2.2.2 ≤ k ∧ chS n A (vis n A k d col u lg).2.2.1 = none
  | 0, _, _, _, _, _, h => by cases h
  | d + 1, col, u, lg, hu, hc, h => by
    unfold vis at h ⊢
    cases hv : chS n A col with
    | none => simp only []; exact ⟨hc, hu, hv⟩
    | some v =>
      simp only [hv] at h ⊢
      cases hT : tgt n A col k with
      | some T =>
        simp only [hT] at h
        by_cases h2 : lg.length < 3000
        · rw [if_pos h2] at h; cases h
        · rw [if_neg h2] at h; cases h
      | none =>
        simp only [hT] at h ⊢
        by_cases h2 : lg.length < 3000
        · rw [if_pos h2] at h ⊢
          obtain ⟨g1, g2⟩ := chS_some hv
          exact brl_found hu hk30 hc g1 g2 (fun col u lg => vis_found hk30 d col u lg) _ _ _ h
        · rw [if_neg h2] at h; cases h
theorem srR_found {n : Nat} {A : Nat → Nat → Bool} {k : Nat} (hk30 : k ≤ 30) (h : (srR n A k).1 = 1) : Cok n (srR n A k).2.2.1 (srR n A k).2.2.2 ∧ (srR n A k).2.2.2 ≤ k ∧ chS n A (srR n A k).2.2.1 = none := vis_found hk30 31 _ _ _ (Nat.zero_le _) (Cok.none n) h
def bsC (n : Nat) (b : fI) (col : tCol) : Prop := ∀ v, v < n → b v = enO (col v)
def tlC (f : fI) (t : tT) : Prop := f 0 = nI t.1 ∧ f 1 = nI t.2.1 ∧ f 2 = nI t.2.2.1 ∧ f 3 = nI t.2.2.2.1 ∧ f 4 = nI t.2.2.2.2
section
variable (n : Nat) (nr tn : fI) (K : tK) (S : tS) (L1 : tL) (U : tU) (L2 L3 : tL) (C : Int32 × Int32) (P : fI) (r : List aC)
theorem c_run {A : Nat → Nat → Bool} (hg : hG n nr tn A) (hk : Gok n A) {k : Nat} (hk30 : k ≤ 30) : aRet 99 0 0 mX4_run [.ref 8, .int (nI k)] (cp (nI n, nr, tn) K S L1 U L2 L3 C P r) (Qv n nr tn U L2 L3 C P r A k (srR n A k)) := by
  refine aRet.of (by decide) (Nat.le_of_ble_eq_true rfl) (a_ok2 rfl) ?_
  refine g_aload_n (i := 0) (pc1 := 1) dX4_run_0 rfl rfl rfl ?_
  refine g_iload_n (i := 1) (pc1 := 2) dX4_run_1 rfl rfl rfl ?_
  refine g_puti (pc1 := 5) dX4_run_2 rfl flX4_9 rfl (Nat.le_of_ble_eq_true rfl) rfl rfl ?_
  refine g_aload_n (i := 0) (pc1 := 6) dX4_run_5 rfl rfl rfl ?_
  refine g_get (pc1 := 9) dX4_run_6 rfl flX4_18 rfl rfl ?_
  refine g_iconst (v := 0) (pc1 := 10) dX4_run_9 rfl (by decide) ?_
  refine g_puti (pc1 := 13) dX4_run_10 rfl flX4_36 rfl (Nat.le_of_ble_eq_true rfl) rfl rfl ?_
  refine g_aload_n (i := 0) (pc1 := 14) dX4_run_13 rfl rfl rfl ?_
  refine g_iconst (v := 0) (pc1 := 15) dX4_run_14 rfl (by decide) ?_
  refine g_puti (pc1 := 18) dX4_run_15 rfl flX4_22 rfl (Nat.le_of_ble_eq_true rfl) rfl rfl ?_
  refine g_aload_n (i := 0) (pc1 := 19) dX4_run_18 rfl rfl rfl ?_
  refine g_iconst (v := 0) (pc1 := 20) dX4_run_19 rfl (by decide) ?_
  refine g_puti (pc1 := 23) dX4_run_20 rfl flX4_25 rfl (Nat.le_of_ble_eq_true rfl) rfl rfl ?_
  refine g_aload_n (i := 0) (pc1 := 24) dX4_run_23 rfl rfl rfl ?_
  refine g_get (pc1 := 27) dX4_run_24 rfl flX4_32 rfl rfl ?_
  refine aGo.eq (h' := cp (nI n, nr, tn) K (nI k, 0, 0) (0, L1.2.1, L1.2.2) U L2 L3 C P r) ?_ rfl rfl rfl
  refine g_V0 (M := mX1_wipe) (pc1 := 30) dX4_run_27 rfl lkX4_39 tmX1_wipe rfl (c_wipe n nr tn K (nI k, 0, 0) (0, L1.2.1, L1.2.2) U L2 L3 C P r hk) (Nat.le_of_ble_eq_true rfl) rfl (Nat.le_of_ble_eq_true rfl) (Nat.le_of_ble_eq_true rfl) ?_
  rintro _ _ ⟨rfl, K1, hK1, rfl⟩
  show aGo _ 30 _ [] _ _ _
  refine g_aload_n (i := 0) (pc1 := 31) dX4_run_30 rfl rfl rfl ?_
  refine g_iconst (v := 0) (pc1 := 32) dX4_run_31 rfl (by decide) ?_
  have hb := cnt_le (brP n (fun _ => none)) n
  have hn := hk.1
  refine g_V1 (M := mX4_visit) (pc1 := 35) dX4_run_32 rfl lkX4_44 tmX4_visit rfl (c_visit n nr tn U L2 L3 C P r hg hk hk30 31 K1 (0, L1.2.1, L1.2.2) (fun _ => none) 0 [] 0 hK1 (Cok.none n) ⟨rfl, by decide, fun i a b h => by simp at h⟩ (by omega) (by omega)) (Nat.le_of_ble_eq_true rfl) rfl (Nat.le_of_ble_eq_true rfl) (Nat.le_of_ble_eq_true rfl) ?_
  rintro _ _ ⟨K2, S2, L2', rfl, rfl, hq⟩
  refine g_iret dX4_run_35 rfl rfl (Nat.le_of_ble_eq_true rfl) (Nat.le_of_ble_eq_true rfl) ?_
  exact ⟨K2, S2, L2', rfl, rfl, hq⟩
theorem c_forget (G : tG) : aRet 0 0 0 mX5_forget [.ref 12] (cp G K S L1 U L2 L3 C P r) (fun v g => v = none ∧ g = cp G K S L1 (0, U.2.1, U.2.2.1, U.2.2.2) L2 L3 C P r) := by
  refine aRet.of (by decide) (Nat.le_of_ble_eq_true rfl) (a_ok2 rfl) ?_
  refine g_aload_n (i := 0) (pc1 := 1) dX5_forget_0 rfl rfl rfl ?_
  refine g_iconst (v := 0) (pc1 := 2) dX5_forget_1 rfl (by decide) ?_
  refine g_puti (pc1 := 5) dX5_forget_2 rfl flX5_9 rfl (Nat.le_of_ble_eq_true rfl) rfl rfl ?_
  refine g_vret dX5_forget_5 rfl (Nat.le_of_ble_eq_true rfl) (Nat.le_of_ble_eq_true rfl) ?_
  exact ⟨rfl, rfl⟩
theorem c_keepBest {A : Nat → Nat → Bool} (hn : n ≤ 30) {col : tCol} {u : Nat} (hK : kC K n A col u) : aRet 2 0 0 mX5_keepBest [.ref 12] (cp (nI n, nr, tn) K S L1 U L2 L3 C P r) (fun v g => v = none ∧ ∃ b : fI, bsC n b col ∧ g = cp (nI n, nr, tn) K S L1 (U.1, b, nI u, U.2.2.2) L2 L3 C P r) := by
  refine aRet.of (by decide) (Nat.le_of_ble_eq_true rfl) (a_ok2 rfl) ?_
  refine g_aload_n (i := 0) (pc1 := 1) dX5_keepBest_0 rfl rfl rfl ?_
  refine g_get (pc1 := 4) dX5_keepBest_1 rfl flX5_37 rfl rfl ?_
  refine g_get (pc1 := 7) dX5_keepBest_4 rfl flX5_99 rfl rfl ?_
  refine g_iconst (v := 0) (pc1 := 8) dX5_keepBest_7 rfl (by decide) ?_
  refine g_aload_n (i := 0) (pc1 := 9) dX5_keepBest_8 rfl rfl rfl ?_
  refine g_get (pc1 := 12) dX5_keepBest_9 rfl flX5_15 rfl rfl ?_
  refine g_iconst (v := 0) (pc1 := 13) dX5_keepBest_12 rfl (by decide) ?_
  refine g_aload_n (i := 0) (pc1 := 14) dX5_keepBest_13 rfl rfl rfl ?_
  refine g_get (pc1 := 17) dX5_keepBest_14 rfl flX5_33 rfl rfl ?_
  refine g_get (pc1 := 20) dX5_keepBest_17 rfl flX5_102 rfl rfl ?_
  refine g_copy0 (pc1 := 23) dX5_keepBest_20 rfl lkX5_103 rfl rfl (m := n) (by omega) (by omega) (by decide) (Nat.le_of_ble_eq_true rfl) rfl ?_
  refine g_aload_n (i := 0) (pc1 := 24) dX5_keepBest_23 rfl rfl rfl ?_
  refine g_aload_n (i := 0) (pc1 := 25) dX5_keepBest_24 rfl rfl rfl ?_
  refine g_get (pc1 := 28) dX5_keepBest_25 rfl flX5_37 rfl rfl ?_
  refine g_get (pc1 := 31) dX5_keepBest_28 rfl flX5_109 rfl rfl ?_
  refine g_puti (pc1 := 34) dX5_keepBest_31 rfl flX5_19 rfl (Nat.le_of_ble_eq_true rfl) rfl rfl ?_
  refine g_vret dX5_keepBest_34 rfl (Nat.le_of_ble_eq_true rfl) (Nat.le_of_ble_eq_true rfl) ?_
  refine ⟨rfl, va_cpy K.1 U.2.1 0 0 n, fun v hv => ?_, by rw [← hK.2.2.2.2]; rfl⟩
  rw [pk_cpy_in (by omega) (by omega), show 0 + (v - 0) = v by omega]
  exact hK.1 v (by omega)
theorem c_tally (G : tG) (x : Int32) : aRet 0 0 0 mX5_tally [.ref 12, .int x] (cp G K S L1 U L2 L3 C P r) (fun v g => v = none ∧ ∃ t : fI, t 0 = U.2.2.2 0 + 1 ∧ t 1 = U.2.2.2 1 + L1.1 ∧ t 2 = U.2.2.2 2 + S.2.1 ∧ t 3 = U.2.2.2 3 + S.2.2 ∧ t 4 = U.2.2.2 4 + (if x = 1 then 1 else 0) ∧ g = cp G K S L1 (U.1, U.2.1, U.2.2.1, t) L2 L3 C P r) := by
  have i0 : (0 : Int32) = nI 0 := rfl
  have i1 : (1 : Int32) = nI 1 := rfl
  have i2 : (2 : Int32) = nI 2 := rfl
  have i3 : (3 : Int32) = nI 3 := rfl
  have i4 : (4 : Int32) = nI 4 := rfl
  obtain ⟨st, be, co, ta⟩ := U
  refine aRet.of (by decide) (Nat.le_of_ble_eq_true rfl) (a_ok2 rfl) ?_
  refine g_aload_n (i := 0) (pc1 := 1) dX5_tally_0 rfl rfl rfl ?_
  refine g_get (pc1 := 4) dX5_tally_1 rfl flX5_30 rfl rfl ?_
  refine g_iconst (v := 0) (pc1 := 5) dX5_tally_4 rfl (by decide) ?_
  refine g_dup2 (pc1 := 6) dX5_tally_5 rfl rfl rfl ?_
  refine g_ialdJ (pc1 := 7) dX5_tally_6 rfl rfl i0 (by decide) (by decide) ?_
  refine g_iconst (v := 1) (pc1 := 8) dX5_tally_7 rfl (by decide) ?_
  refine g_iadd (pc1 := 9) dX5_tally_8 rfl ?_
  refine g_iastJ (pc1 := 10) dX5_tally_9 rfl rfl i0 (by decide) (by decide) ?_
  refine g_aload_n (i := 0) (pc1 := 11) dX5_tally_10 rfl rfl rfl ?_
  refine g_get (pc1 := 14) dX5_tally_11 rfl flX5_30 rfl rfl ?_
  refine g_iconst (v := 1) (pc1 := 15) dX5_tally_14 rfl (by decide) ?_
  refine g_dup2 (pc1 := 16) dX5_tally_15 rfl rfl rfl ?_
  refine g_ialdJ (pc1 := 17) dX5_tally_16 rfl rfl i1 (by decide) (by decide) ?_
  refine g_aload_n (i := 0) (pc1 := 18) dX5_tally_17 rfl rfl rfl ?_
  refine g_get (pc1 := 21) dX5_tally_18 rfl flX5_41 rfl rfl ?_
  refine g_get (pc1 := 24) dX5_tally_21 rfl flX5_87 rfl rfl ?_
  refine g_get (pc1 := 27) dX5_tally_24 rfl flX5_92 rfl rfl ?_
  refine g_iadd (pc1 := 28) dX5_tally_27 rfl ?_
  refine g_iastJ (pc1 := 29) dX5_tally_28 rfl rfl i1 (by decide) (by decide) ?_
  refine g_aload_n (i := 0) (pc1 := 30) dX5_tally_29 rfl rfl rfl ?_
  refine g_get (pc1 := 33) dX5_tally_30 rfl flX5_30 rfl rfl ?_
  refine g_iconst (v := 2) (pc1 := 34) dX5_tally_33 rfl (by decide) ?_
  refine g_dup2 (pc1 := 35) dX5_tally_34 rfl rfl rfl ?_
  refine g_ialdJ (pc1 := 36) dX5_tally_35 rfl rfl i2 (by decide) (by decide) ?_
  refine g_aload_n (i := 0) (pc1 := 37) dX5_tally_36 rfl rfl rfl ?_
  refine g_get (pc1 := 40) dX5_tally_37 rfl flX5_41 rfl rfl ?_
  refine g_get (pc1 := 43) dX5_tally_40 rfl flX5_112 rfl rfl ?_
  refine g_iadd (pc1 := 44) dX5_tally_43 rfl ?_
  refine g_iastJ (pc1 := 45) dX5_tally_44 rfl rfl i2 (by decide) (by decide) ?_
  refine g_aload_n (i := 0) (pc1 := 46) dX5_tally_45 rfl rfl rfl ?_
  refine g_get (pc1 := 49) dX5_tally_46 rfl flX5_30 rfl rfl ?_
  refine g_iconst (v := 3) (pc1 := 50) dX5_tally_49 rfl (by decide) ?_
  refine g_dup2 (pc1 := 51) dX5_tally_50 rfl rfl rfl ?_
  refine g_ialdJ (pc1 := 52) dX5_tally_51 rfl rfl i3 (by decide) (by decide) ?_
  refine g_aload_n (i := 0) (pc1 := 53) dX5_tally_52 rfl rfl rfl ?_
  refine g_get (pc1 := 56) dX5_tally_53 rfl flX5_41 rfl rfl ?_
  refine g_get (pc1 := 59) dX5_tally_56 rfl flX5_115 rfl rfl ?_
  refine g_iadd (pc1 := 60) dX5_tally_59 rfl ?_
  refine g_iastJ (pc1 := 61) dX5_tally_60 rfl rfl i3 (by decide) (by decide) ?_
  refine g_iload_n (i := 1) (pc1 := 62) dX5_tally_61 rfl rfl rfl ?_
  refine g_iconst (v := 1) (pc1 := 63) dX5_tally_62 rfl (by decide) ?_
  refine g_icmp_ne (pc1 := 66) (tgt := 76) dX5_tally_63 rfl (by decide) (fun c => ?_) (fun c => ?_)
  · refine g_vret dX5_tally_76 rfl (Nat.le_of_ble_eq_true rfl) (Nat.le_of_ble_eq_true rfl) ?_
    refine ⟨rfl, upd (upd (upd (upd ta 0 (ta 0 + 1)) 1 (ta 1 + L1.1)) 2 (ta 2 + S.2.1)) 3 (ta 3 + S.2.2), rfl, rfl, rfl, rfl, ?_, rfl⟩
    rw [if_neg c]
    show ta 4 = ta 4 + 0
    simp
  · refine g_aload_n (i := 0) (pc1 := 67) dX5_tally_66 rfl rfl rfl ?_
    refine g_get (pc1 := 70) dX5_tally_67 rfl flX5_30 rfl rfl ?_
    refine g_iconst (v := 4) (pc1 := 71) dX5_tally_70 rfl (by decide) ?_
    refine g_dup2 (pc1 := 72) dX5_tally_71 rfl rfl rfl ?_
    refine g_ialdJ (pc1 := 73) dX5_tally_72 rfl rfl i4 (by decide) (by decide) ?_
    refine g_iconst (v := 1) (pc1 := 74) dX5_tally_73 rfl (by decide) ?_
    refine g_iadd (pc1 := 75) dX5_tally_74 rfl ?_
    refine g_iastJ (pc1 := 76) dX5_tally_75 rfl rfl i4 (by decide) (by decide) ?_
    refine g_vret dX5_tally_76 rfl (Nat.le_of_ble_eq_true rfl) (Nat.le_of_ble_eq_true rfl) ?_
    refine ⟨rfl, upd (upd (upd (upd (upd ta 0 (ta 0 + 1)) 1 (ta 1 + L1.1)) 2 (ta 2 + S.2.1)) 3 (ta 3 + S.2.2)) 4 (ta 4 + 1), rfl, rfl, rfl, rfl, ?_, rfl⟩
    rw [if_pos c]
    rfl
theorem c_keepProof (G : tG) {lg : tLog} {e : Nat} (he : e ≤ 2) (p : Nat → Bool) (hL : e = 0 → lC L1 lg) : aRet 3 0 0 mX5_keepProof [.ref 12, .int (nI e), .int (bS p)] (cp G K S L1 U L2 L3 C P r) (fun v g => v = none ∧ ∃ L' : tL, lC L' (if e = 0 then lg else if bS p = 0 then [] else [(4, bS p)]) ∧ g = cp G K S L1 U L' L3 C P r) := by
  refine aRet.of (by decide) (Nat.le_of_ble_eq_true rfl) (a_ok2 rfl) ?_
  refine g_iload_n (i := 1) (pc1 := 1) dX5_keepProof_0 rfl rfl rfl ?_
  refine g_if_ne (pc1 := 4) (tgt := 19) dX5_keepProof_1 rfl (by decide) (fun c => ?_) (fun c => ?_)
  · have h0 : ¬ e = 0 := fun q => c (by rw [q]; rfl)
    refine g_aload_n (i := 0) (pc1 := 20) dX5_keepProof_19 rfl rfl rfl ?_
    refine g_get (pc1 := 23) dX5_keepProof_20 rfl flX5_26 rfl rfl ?_
    refine g_iconst (v := 0) (pc1 := 24) dX5_keepProof_23 rfl (by decide) ?_
    refine g_puti (pc1 := 27) dX5_keepProof_24 rfl flX5_92 rfl (Nat.le_of_ble_eq_true rfl) rfl rfl ?_
    refine g_iload_n (i := 2) (pc1 := 28) dX5_keepProof_27 rfl rfl rfl ?_
    have hE : lC (0, L2.2.1, L2.2.2) [] := ⟨rfl, by decide, fun i a b h => by simp at h⟩
    refine aGo.eq (h' := cp G K S L1 U (0, L2.2.1, L2.2.2) L3 C P r) ?_ rfl rfl rfl
    refine g_if_eq (pc1 := 31) (tgt := 41) dX5_keepProof_28 rfl (by decide) (fun c2 => ?_) (fun c2 => ?_)
    · refine g_vret dX5_keepProof_41 rfl (Nat.le_of_ble_eq_true rfl) (Nat.le_of_ble_eq_true rfl) ?_
      exact ⟨rfl, (0, L2.2.1, L2.2.2), by rw [if_neg h0, if_pos c2]; exact hE, rfl⟩
    · refine g_aload_n (i := 0) (pc1 := 32) dX5_keepProof_31 rfl rfl rfl ?_
      refine g_get (pc1 := 35) dX5_keepProof_32 rfl flX5_26 rfl rfl ?_
      refine g_iconst (v := 4) (pc1 := 36) dX5_keepProof_35 rfl (by decide) ?_
      refine g_iload_n (i := 2) (pc1 := 37) dX5_keepProof_36 rfl rfl rfl ?_
      refine g_V2 (M := mX3_write) (pc1 := 40) dX5_keepProof_37 rfl lkX5_95 tmX3_write rfl (c_write14 G K S L1 U (0, L2.2.1, L2.2.2) L3 C P r hE 4 (bS p)) (Nat.le_of_ble_eq_true rfl) rfl (Nat.le_of_ble_eq_true rfl) (Nat.le_of_ble_eq_true rfl) ?_
      rintro _ _ (⟨_, rfl, L', h2, rfl⟩ | ⟨h1, _⟩)
      · refine g_pop (pc1 := 41) dX5_keepProof_40 rfl rfl ?_
        refine g_vret dX5_keepProof_41 rfl (Nat.le_of_ble_eq_true rfl) (Nat.le_of_ble_eq_true rfl) ?_
        exact ⟨rfl, L', by rw [if_neg h0, if_neg c2]; exact h2, rfl⟩
      · exact absurd (by decide) h1
  · have h0 : e = 0 := (nI_eq (a := e) (b := 0) (by omega) (by omega)).mp c
    refine g_aload_n (i := 0) (pc1 := 5) dX5_keepProof_4 rfl rfl rfl ?_
    refine g_get (pc1 := 8) dX5_keepProof_5 rfl flX5_26 rfl rfl ?_
    refine g_aload_n (i := 0) (pc1 := 9) dX5_keepProof_8 rfl rfl rfl ?_
    refine g_get (pc1 := 12) dX5_keepProof_9 rfl flX5_41 rfl rfl ?_
    refine g_get (pc1 := 15) dX5_keepProof_12 rfl flX5_87 rfl rfl ?_
    refine g_V1 (M := mX3_become) (pc1 := 18) dX5_keepProof_15 rfl lkX5_88 tmX3_become rfl (c_become14_9 G K S L1 U L2 L3 C P r (hL h0)) (Nat.le_of_ble_eq_true rfl) rfl (Nat.le_of_ble_eq_true rfl) (Nat.le_of_ble_eq_true rfl) ?_
    rintro _ _ ⟨rfl, L', h2, rfl⟩
    refine g_vret dX5_keepProof_18 rfl (Nat.le_of_ble_eq_true rfl) (Nat.le_of_ble_eq_true rfl) ?_
    exact ⟨rfl, L', by rw [if_pos h0]; exact h2, rfl⟩
/-- the cells behind solve() -/
def Qs (A : Nat → Nat → Bool) (x : Option Value) (g : List aC) : Prop := ∃ (K' : tK) (S' : tS) (L1' : tL) (b : fI) (co : Int32) (t : fI), (((svR n A).1 = 2 ∧ x = some (.int (-3)) ∧ g = cp (nI n, nr, tn) K' S' L1' (0, b, co, t) L2 L3 C P r) ∨
  ((svR n A).1 ≠ 2 ∧ x = some (.int (nI (svR n A).2.1.2)) ∧ ∃ L2' : tL, bsC n b (svR n A).2.1.1 ∧ tlC t (svR n A).2.2.2 ∧ lC L2' (svL n A) ∧ g = cp (nI n, nr, tn) K' S' L1' (1, b, co, t) L2' L3 C P r))
set_option maxHeartbeats 2000000 in
theorem c_find {A : Nat → Nat → Bool} (hg : hG n nr tn A) (hk : Gok n A) : aRet 100 0 0 mX5_find [.ref 12] (cp (nI n, nr, tn) K S L1 U L2 L3 C P r) (Qs n nr tn L2 L3 C P r A) := by
  have hn := hk.1
  refine aRet.of (by decide) (Nat.le_of_ble_eq_true rfl) (a_ok2 rfl) ?_
  refine g_aload_n (i := 0) (pc1 := 1) dX5_find_0 rfl rfl rfl ?_
  refine g_V0 (M := mX5_forget) (pc1 := 4) dX5_find_1 rfl lkX5_45 tmX5_forget rfl (c_forget K S L1 U L2 L3 C P r (nI n, nr, tn)) (Nat.le_of_ble_eq_true rfl) rfl (Nat.le_of_ble_eq_true rfl) (Nat.le_of_ble_eq_true rfl) ?_
  rintro _ _ ⟨rfl, rfl⟩
  refine g_aload_n (i := 0) (pc1 := 5) dX5_find_4 rfl rfl rfl ?_
  refine g_get (pc1 := 8) dX5_find_5 rfl flX5_30 rfl rfl ?_
  refine g_iconst (v := 0) (pc1 := 9) dX5_find_8 rfl (by decide) ?_
  refine g_S2 (M := mJ7_fill_53178) (pc1 := 12) dX5_find_9 rfl lkX5_48 tmJ7_fill_53178 (c_fill (q := 17) (N := 5) (f := U.2.2.2) (by decide) rfl 0) (Nat.le_of_ble_eq_true rfl) rfl (Nat.le_of_ble_eq_true rfl) (Nat.le_of_ble_eq_true rfl) ?_
  rintro _ _ ⟨rfl, rfl⟩
  show aGo _ 12 _ [] (cp (nI n, nr, tn) K S L1 (0, U.2.1, U.2.2.1, fil 5 0 U.2.2.2) L2 L3 C P r) _ _
  refine g_aload_n (i := 0) (pc1 := 13) dX5_find_12 rfl rfl rfl ?_
  refine g_get (pc1 := 16) dX5_find_13 rfl flX5_37 rfl rfl ?_
  refine g_V0 (M := mX1_fillGreedily) (pc1 := 19) dX5_find_16 rfl lkX5_54 tmX1_fillGreedily rfl (c_fillGreedily n nr tn K S L1 (0, U.2.1, U.2.2.1, fil 5 0 U.2.2.2) L2 L3 C P r hg hk) (Nat.le_of_ble_eq_true rfl) rfl (Nat.le_of_ble_eq_true rfl) (Nat.le_of_ble_eq_true rfl) ?_
  rintro _ _ ⟨rfl, K1, hK1, rfl⟩
  show aGo _ 19 _ [] _ _ _
  refine g_aload_n (i := 0) (pc1 := 20) dX5_find_19 rfl rfl rfl ?_
  refine g_V0 (M := mX5_keepBest) (pc1 := 23) dX5_find_20 rfl lkX5_59 tmX5_keepBest rfl (c_keepBest n nr tn K1 S L1 (0, U.2.1, U.2.2.1, fil 5 0 U.2.2.2) L2 L3 C P r hn hK1) (Nat.le_of_ble_eq_true rfl) rfl (Nat.le_of_ble_eq_true rfl) (Nat.le_of_ble_eq_true rfl) ?_
  rintro _ _ ⟨rfl, b1, hb1, rfl⟩
  show aGo _ 23 _ [] _ _ _
  refine g_aload_n (i := 0) (pc1 := 24) dX5_find_23 rfl rfl rfl ?_
  refine g_get (pc1 := 27) dX5_find_24 rfl flX5_33 rfl rfl ?_
  refine g_V0 (M := mX2_greedyClique) (pc1 := 30) dX5_find_27 rfl lkX5_62 tmX2_greedyClique rfl (c_greedyClique (nI n, nr, tn) K1 S L1 (0, b1, nI (fgS n A n).2, fil 5 0 U.2.2.2) L2 L3 C P r hg hk) (Nat.le_of_ble_eq_true rfl) rfl (Nat.le_of_ble_eq_true rfl) (Nat.le_of_ble_eq_true rfl) ?_
  rintro _ _ ⟨rfl, rfl⟩
  refine g_istore_n (i := 1) (pc1 := 31) dX5_find_30 rfl rfl (Nat.le_of_ble_eq_true rfl) ?_
  refine g_iconst (v := 1) (pc1 := 32) dX5_find_31 rfl (by decide) ?_
  refine g_istore_n (i := 2) (pc1 := 33) dX5_find_32 rfl rfl (Nat.le_of_ble_eq_true rfl) ?_
  refine g_iconst (v := 0) (pc1 := 34) dX5_find_33 rfl (by decide) ?_
  refine g_istore_n (i := 3) (pc1 := 35) dX5_find_34 rfl rfl (Nat.le_of_ble_eq_true rfl) ?_
  have hcq : cq n A ≤ 32 := cnt_le _ _
  have done : ∀ (e : Nat) (K : tK) (S : tS) (L1 : tL) (b : fI) (u : Nat) (t : fI) (x : Int32), e = (svR n A).1 → e ≤ 2 → (e ≠ 2 → u = (svR n A).2.1.2 ∧ bsC n b (svR n A).2.1.1 ∧ tlC t (svR n A).2.2.2) → (e = 0 → lC L1 (svR n A).2.2.1) →
      aGo (100, 0, 0, mX5_find, none, Qs n nr tn L2 L3 C P r A) 89 [.ref 12, .int (bS (clqR A n)), .int (nI e), .int x] [] (cp (nI n, nr, tn) K S L1 (0, b, nI u, t) L2 L3 C P r) 0 0 := by
    intro e K S L1 b u t x he he2 h1 h2
    refine g_iload_n (i := 2) (pc1 := 90) dX5_find_89 rfl rfl rfl ?_
    refine g_iconst (v := 2) (pc1 := 91) dX5_find_90 rfl (by decide) ?_
    refine g_icmp_ne (pc1 := 94) (tgt := 97) dX5_find_91 rfl (by decide) (fun c => ?_) (fun c => ?_)
    · have hne : e ≠ 2 := fun q => c (by rw [q]; rfl)
      obtain ⟨g1, g2, g3⟩ := h1 hne
      refine g_aload_n (i := 0) (pc1 := 98) dX5_find_97 rfl rfl rfl ?_
      refine g_iload_n (i := 2) (pc1 := 99) dX5_find_98 rfl rfl rfl ?_
      refine g_iload_n (i := 1) (pc1 := 100) dX5_find_99 rfl rfl rfl ?_
      refine g_V2 (M := mX5_keepProof) (pc1 := 103) dX5_find_100 rfl lkX5_83 tmX5_keepProof rfl (c_keepProof K S L1 (0, b, nI u, t) L2 L3 C P r (nI n, nr, tn) (lg := (svR n A).2.2.1) he2 (clqR A n) h2) (Nat.le_of_ble_eq_true rfl) rfl (Nat.le_of_ble_eq_true rfl) (Nat.le_of_ble_eq_true rfl) ?_
      rintro _ _ ⟨rfl, L2', hL2, rfl⟩
      show aGo _ 103 _ [] _ _ _
      refine g_aload_n (i := 0) (pc1 := 104) dX5_find_103 rfl rfl rfl ?_
      refine g_iconst (v := 1) (pc1 := 105) dX5_find_104 rfl (by decide) ?_
      refine g_puti (pc1 := 108) dX5_find_105 rfl flX5_9 rfl (Nat.le_of_ble_eq_true rfl) rfl rfl ?_
      refine g_aload_n (i := 0) (pc1 := 109) dX5_find_108 rfl rfl rfl ?_
      refine g_get (pc1 := 112) dX5_find_109 rfl flX5_19 rfl rfl ?_
      refine g_iret dX5_find_112 rfl rfl (Nat.le_of_ble_eq_true rfl) (Nat.le_of_ble_eq_true rfl) ?_
      refine ⟨K, S, L1, b, nI u, t, Or.inr ⟨by rw [← he]; exact hne, by rw [← g1], L2', g2, g3, ?_, rfl⟩⟩
      unfold svL
      rw [← he]
      exact hL2
    · have hee : e = 2 := (nI_eq (a := e) (b := 2) (by omega) (by omega)).mp c
      refine g_bipush (v := (-3)) (pc1 := 96) dX5_find_94 rfl (by decide) ?_
      refine g_iret dX5_find_96 rfl rfl (Nat.le_of_ble_eq_true rfl) (Nat.le_of_ble_eq_true rfl) ?_
      exact ⟨K, S, L1, b, nI u, t, Or.inl ⟨by rw [← he]; exact hee, rfl, rfl⟩⟩
  have key : ∀ (K : tK) (S : tS) (L1 : tL) (b : fI) (col : tCol) (u : Nat) (tf : fI) (t : tT), bsC n b col → tlC tf t → u + 0 ≤ 30 → svR n A = sv n A (30 - 0) (col, u) t →
      aGo (100, 0, 0, mX5_find, none, Qs n nr tn L2 L3 C P r A) 35 [.ref 12, .int (bS (clqR A n)), .int 1, .int (nI 0)] [] (cp (nI n, nr, tn) K S L1 (0, b, nI u, tf) L2 L3 C P r) 0 0 := by
    refine down0 (P := fun i => ∀ (K : tK) (S : tS) (L1 : tL) (b : fI) (col : tCol) (u : Nat) (tf : fI) (t : tT), bsC n b col → tlC tf t → u + i ≤ 30 → svR n A = sv n A (30 - i) (col, u) t →
      aGo _ 35 [.ref 12, .int (bS (clqR A n)), .int 1, .int (nI i)] [] (cp (nI n, nr, tn) K S L1 (0, b, nI u, tf) L2 L3 C P r) 0 0) 30 ?_ ?_
    · intro K S L1 b col u tf t hb ht hu hR
      refine g_iload_n (i := 3) (pc1 := 36) dX5_find_35 rfl rfl rfl ?_
      refine g_bipush (v := 30) (pc1 := 38) dX5_find_36 rfl (by decide) ?_
      refine g_icmp_ge (pc1 := 41) (tgt := 89) dX5_find_38 rfl (by decide) (fun _ => ?_) (fun c => absurd (by decide) c)
      exact done 1 K S L1 b u tf (nI 30) (by rw [hR]; rfl) (by decide) (fun _ => by rw [hR]; exact ⟨rfl, hb, ht⟩) (fun h => absurd h (by decide))
    · intro i hi ih K S L1 b col u tf t hb ht hu hR
      rw [show 30 - i = (30 - (i + 1)) + 1 by omega] at hR
      unfold sv at hR
      refine g_iload_n (i := 3) (pc1 := 36) dX5_find_35 rfl rfl rfl ?_
      refine g_bipush (v := 30) (pc1 := 38) dX5_find_36 rfl (by decide) ?_
      refine g_icmp_ge (pc1 := 41) (tgt := 89) dX5_find_38 rfl (by decide) (fun c => absurd c (fun c => absurd ((nI_leI (a := 30) (b := i) (by omega) (by omega)).mp c) (by omega))) (fun _ => ?_)
      refine g_aload_n (i := 0) (pc1 := 42) dX5_find_41 rfl rfl rfl ?_
      refine g_get (pc1 := 45) dX5_find_42 rfl flX5_19 rfl rfl ?_
      refine g_iload_n (i := 1) (pc1 := 46) dX5_find_45 rfl rfl rfl ?_
      refine g_S1 (M := mJ6_bitCount_0f7a4) (pc1 := 49) dX5_find_46 rfl lkX5_70 tmJ6_bitCount_0f7a4 (c_bitCount _) (Nat.le_of_ble_eq_true rfl) rfl (Nat.le_of_ble_eq_true rfl) (Nat.le_of_ble_eq_true rfl) ?_
      rintro _ _ ⟨rfl, rfl⟩
      rw [cnt_bS]
      show aGo _ 49 _ [.int (nI (cq n A)), .int (nI u)] _ _ _
      refine g_icmp_le (pc1 := 52) (tgt := 89) dX5_find_49 rfl (by decide) (fun c => ?_) (fun c => ?_)
      · have hle : u ≤ cq n A := (nI_leI (a := u) (b := cq n A) (by omega) (by omega)).mp c
        rw [if_neg (by show ¬ cq n A < u; omega)] at hR
        exact done 1 K S L1 b u tf (nI i) (by rw [hR]) (by decide) (fun _ => by rw [hR]; exact ⟨rfl, hb, ht⟩) (fun h => absurd h (by decide))
      · have hlt : cq n A < u := by
          have : ¬ u ≤ cq n A := fun q => c ((nI_leI (a := u) (b := cq n A) (by omega) (by omega)).mpr q)
          omega
        rw [if_pos hlt] at hR
        simp only [] at hR
        refine g_aload_n (i := 0) (pc1 := 53) dX5_find_52 rfl rfl rfl ?_
        refine g_get (pc1 := 56) dX5_find_53 rfl flX5_41 rfl rfl ?_
        refine g_aload_n (i := 0) (pc1 := 57) dX5_find_56 rfl rfl rfl ?_
        refine g_get (pc1 := 60) dX5_find_57 rfl flX5_19 rfl rfl ?_
        refine g_iconst (v := 1) (pc1 := 61) dX5_find_60 rfl (by decide) ?_
        refine g_isub (pc1 := 62) dX5_find_61 rfl ?_
        dsimp only
        rw [show nI u - 1 = nI (u - 1) by rw [show u = (u - 1) + 1 by omega, nI_pred]; simp]
        refine g_V1 (M := mX4_run) (pc1 := 65) dX5_find_62 rfl lkX5_76 tmX4_run rfl (c_run n nr tn K S L1 (0, b, nI u, tf) L2 L3 C P r hg hk (k := u - 1) (by omega)) (Nat.le_of_ble_eq_true rfl) rfl (Nat.le_of_ble_eq_true rfl) (Nat.le_of_ble_eq_true rfl) ?_
        have hle2 : (srR n A (u - 1)).1 ≤ 2 := vis_le _ _ _ _
        rintro _ _ ⟨K2, S2, L4, rfl, rfl, hq⟩
        refine g_istore_n (i := 2) (pc1 := 66) dX5_find_65 rfl rfl (Nat.le_of_ble_eq_true rfl) ?_
        refine g_aload_n (i := 0) (pc1 := 67) dX5_find_66 rfl rfl rfl ?_
        refine g_iload_n (i := 2) (pc1 := 68) dX5_find_67 rfl rfl rfl ?_
        refine g_V1 (M := mX5_tally) (pc1 := 71) dX5_find_68 rfl lkX5_79 tmX5_tally rfl (c_tally K2 S2 L4 (0, b, nI u, tf) L2 L3 C P r (nI n, nr, tn) (nI (srR n A (u - 1)).1)) (Nat.le_of_ble_eq_true rfl) rfl (Nat.le_of_ble_eq_true rfl) (Nat.le_of_ble_eq_true rfl) ?_
        rintro _ _ ⟨rfl, t2, e0, e1, e2, e3, e4, rfl⟩
        show aGo _ 71 _ [] _ _ _
        have hx1 : nI (srR n A (u - 1)).1 = 1 ↔ (srR n A (u - 1)).1 = 1 := nI_eq (a := (srR n A (u - 1)).1) (b := 1) (by omega) (by omega)
        have htl : (srR n A (u - 1)).1 ≠ 2 → tlC t2 (tly t (srR n A (u - 1))) := by
          intro h2
          obtain ⟨q1, q2, q3⟩ := hq h2
          obtain ⟨p0, p1, p2, p3, p4⟩ := ht
          dsimp only at e0 e1 e2 e3 e4
          refine ⟨?_, ?_, ?_, ?_, ?_⟩
          · rw [e0, p0, nI_1]; rfl
          · rw [e1, p1, q2.1, nI_add]; rfl
          · rw [e2, p2, q3, nI_add]; rfl
          · rw [e3, p3, q3, nI_add]; rfl
          · rw [e4, p4]
            show _ = nI (t.2.2.2.2 + (if (srR n A (u - 1)).1 = 1 then 1 else 0))
            by_cases h5 : (srR n A (u - 1)).1 = 1
            · rw [if_pos (hx1.mpr h5), if_pos h5, nI_1]
            · rw [if_neg (fun q => h5 (hx1.mp q)), if_neg h5]; simp
        refine g_iload_n (i := 2) (pc1 := 72) dX5_find_71 rfl rfl rfl ?_
        refine g_iconst (v := 1) (pc1 := 73) dX5_find_72 rfl (by decide) ?_
        refine g_icmp_eq (pc1 := 76) (tgt := 79) dX5_find_73 rfl (by decide) (fun c5 => ?_) (fun c5 => ?_)
        · have h5 := hx1.mp c5
          rw [if_pos h5] at hR
          obtain ⟨q1, q2, q3⟩ := hq (by omega)
          obtain ⟨f1, f2, -⟩ := srR_found (by omega) h5
          rw [h5]
          refine g_aload_n (i := 0) (pc1 := 80) dX5_find_79 rfl rfl rfl ?_
          refine g_V0 (M := mX5_keepBest) (pc1 := 83) dX5_find_80 rfl lkX5_59 tmX5_keepBest rfl (c_keepBest n nr tn K2 S2 L4 (0, b, nI u, t2) L2 L3 C P r hn q1) (Nat.le_of_ble_eq_true rfl) rfl (Nat.le_of_ble_eq_true rfl) (Nat.le_of_ble_eq_true rfl) ?_
          rintro _ _ ⟨rfl, b2, hb2, rfl⟩
          show aGo _ 83 _ [] _ _ _
          refine g_iinc (pc1 := 86) dX5_find_83 rfl rfl rfl ?_
          refine g_goto (tgt := 35) dX5_find_86 (by decide) ?_
          refine aGo.eq (ih K2 S2 L4 b2 (srR n A (u - 1)).2.2.1 (srR n A (u - 1)).2.2.2 t2 _ hb2 (htl (by omega)) (by omega) hR) ?_ rfl rfl
          show [Value.ref 12, .int (bS (clqR A n)), .int (nI 1), .int (nI i + Int32.ofInt 1)] = _
          rw [show nI i + Int32.ofInt 1 = nI (i + 1) from nI_1 i]
          rfl
        · have h5 : ¬ (srR n A (u - 1)).1 = 1 := fun q => c5 (hx1.mpr q)
          rw [if_neg h5] at hR
          refine g_goto (tgt := 89) dX5_find_76 (by decide) ?_
          refine done (srR n A (u - 1)).1 K2 S2 L4 b u t2 (nI i) (by rw [hR]) hle2 (fun h2 => ?_) (fun h0 => ?_)
          · rw [hR]; exact ⟨rfl, hb, htl h2⟩
          · rw [hR]; exact (hq (by omega)).2.1
  have hu30 : (fgS n A n).2 ≤ 30 := by have := (fgS_ok n A n).le; omega
  exact key K1 S L1 b1 (fgS n A n).1 (fgS n A n).2 (fil 5 0 U.2.2.2) (0, 0, 0, 0, 0) hb1 ⟨rfl, rfl, rfl, rfl, rfl⟩ hu30 rfl
end
