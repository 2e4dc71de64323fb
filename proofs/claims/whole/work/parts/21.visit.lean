/-! ===== SEARCH goes down and comes back ===== -/
theorem brl_back {rec : tCol → Nat → tLog → tR} {n : Nat} {A : Nat → Nat → Bool} {k : Nat} {col : tCol} {u v : Nat} : ∀ (m c : Nat) (lg : tLog), (brl rec n A k col u v m c lg).1 = 0 → (brl rec n A k col u v m c lg).2.2 = (col, u)
  | 0, _, _, _ => rfl
  | m + 1, c, lg, h => by
    unfold brl at h ⊢
    split at h
    · next h1 =>
      rw [if_pos h1] at ⊢
      split at h
      · next h2 =>
        rw [if_pos h2]
        split at h
        · next h3 => rw [if_pos h3]; exact brl_back m _ _ h
        · next h3 =>
          rw [if_neg h3]
          split at h
          · next h4 => rw [if_pos h4]; exact brl_back m _ _ h
          · next h4 => exact absurd h h4
      · cases h
    · next h1 => rw [if_neg h1]
theorem vis_back {n : Nat} {A : Nat → Nat → Bool} {k : Nat} : ∀ (d : Nat) (col : tCol) (u : Nat) (lg : tLog), (vis n A k d col u lg).1 = 0 → (vis n A k d col u lg).2.2 = (col, u)
  | 0, _, _, _, h => by cases h
  | d + 1, col, u, lg, h => by
    unfold vis at h ⊢
    cases hv : chS n A col with
    | none => simp only [hv] at h; cases h
    | some v =>
      simp only [hv] at h ⊢
      cases hT : tgt n A col k with
      | some T =>
        simp only [hT] at h ⊢
        by_cases h2 : lg.length < 3000
        · rw [if_pos h2]
        · rw [if_neg h2] at h; cases h
      | none =>
        simp only [hT] at h ⊢
        by_cases h2 : lg.length < 3000
        · rw [if_pos h2] at h ⊢; exact brl_back _ _ _ h
        · rw [if_neg h2] at h; cases h
/-- what is taken is not nothing -/
theorem tg_ne {n : Nat} {A : Nat → Nat → Bool} {col : tCol} {k : Nat} {T : Nat → Bool} (hn : n ≤ 30) : ∀ {m i : Nat}, tg n A col k m i = some T → ∃ v, v < n ∧ T v = true
  | 0, _, h => by cases h
  | m + 1, i, h => by
    unfold tg at h
    split at h
    · cases h
    · next v hv =>
      split at h
      · cases h
        refine ⟨v, (amx_some hv).1, ?_⟩
        rw [tcl_succ hv]; simp
      · exact tg_ne hn h
section
variable (n : Nat) (nr tn : fI) (U : tU) (L2 L3 : tL) (C : Int32 × Int32) (P : fI) (r : List aC)
/-- the cells behind a search that stands at R -/
def Qv (A : Nat → Nat → Bool) (k : Nat) (R : tR) (x : Option Value) (g : List aC) : Prop := ∃ (K' : tK) (S' : tS) (L' : tL), x = some (.int (nI R.1)) ∧ g = cp (nI n, nr, tn) K' S' L' U L2 L3 C P r ∧ (R.1 ≠ 2 → kC K' n A R.2.2.1 R.2.2.2 ∧ lC L' R.2.1 ∧ S' = (nI k, nI (opc 1 R.2.1), nI (opc 4 R.2.1)))
def tS0 (k : Nat) (lg : tLog) : tS := (nI k, nI (opc 1 lg), nI (opc 4 lg))
/-- what visit promises, as deep as d -/
def VisP (A : Nat → Nat → Bool) (k d : Nat) : Prop := ∀ (K : tK) (L1 : tL) (col : tCol) (u : Nat) (lg : tLog) (dep : Nat), kC K n A col u → Cok n col u → lC L1 lg → cnt (brP n col) n < d → dep + cnt (brP n col) n ≤ n →
  aRet (3 * d + 5) 0 0 mX4_visit [.ref 8, .int (nI dep)] (cp (nI n, nr, tn) K (tS0 k lg) L1 U L2 L3 C P r) (Qv n nr tn U L2 L3 C P r A k (vis n A k d col u lg))
theorem cnt_brP_set {n : Nat} {col : tCol} {v c : Nat} (hv : v < n) (hn : col v = none) : cnt (brP n (cset col v c)) n + 1 = cnt (brP n col) n := by
  have h1 : ∀ (m : Nat), m ≤ n → cnt (brP n (cset col v c)) m + (if v < m then 1 else 0) = cnt (brP n col) m := by
    intro m
    induction m with
    | zero => intro _; rfl
    | succ m ih =>
      intro hm
      have h2 := ih (by omega)
      unfold cnt
      rw [← h2, brP_set]
      by_cases h3 : m = v
      · subst h3
        simp [brP, hv, hn]
      · by_cases h4 : v < m
        · simp [h3, h4, show v < m + 1 by omega]; omega
        · simp [h3, h4, show ¬ v < m + 1 by omega]
  have := h1 n (Nat.le_refl _)
  rw [if_pos hv] at this
  exact this
def attS (n : Nat) (A : Nat → Nat → Bool) (k d : Nat) (col : tCol) (u v c : Nat) (lg : tLog) : tR :=
  if lg.length < 3000 then (if (vis n A k d (cset col v c) (up1 u c) (lg ++ [(3, nI c)])).1 = 0 then (0, (vis n A k d (cset col v c) (up1 u c) (lg ++ [(3, nI c)])).2.1, col, u) else vis n A k d (cset col v c) (up1 u c) (lg ++ [(3, nI c)])) else (2, lg, col, u)
theorem vis_le {n : Nat} {A : Nat → Nat → Bool} {k : Nat} : ∀ (d : Nat) (col : tCol) (u : Nat) (lg : tLog), (vis n A k d col u lg).1 ≤ 2 := by
  have hb : ∀ (rec : tCol → Nat → tLog → tR), (∀ a b c, (rec a b c).1 ≤ 2) → ∀ (col : tCol) (u v m c : Nat) (lg : tLog), (brl rec n A k col u v m c lg).1 ≤ 2 := by
    intro rec hrec col u v m
    induction m with
    | zero => intro c lg; exact Nat.zero_le _
    | succ m ih =>
      intro c lg
      unfold brl
      split
      · split
        · split
          · exact ih _ _
          · split
            · exact ih _ _
            · exact hrec _ _ _
        · exact Nat.le_refl _
      · exact Nat.zero_le _
  intro d
  induction d with
  | zero => intro _ _ _; exact Nat.le_refl _
  | succ d ih =>
    intro col u lg
    unfold vis
    split
    · exact (by decide : (1 : Nat) ≤ 2)
    · split
      · split
        · exact Nat.zero_le _
        · exact Nat.le_refl _
      · split
        · exact hb _ ih _ _ _ _ _ _
        · exact Nat.le_refl _
theorem opc_other {lg : tLog} {a x : Int32} (o : Int32) (h : ¬ a = o) : opc o (lg ++ [(a, x)]) = opc o lg := by rw [opc_app, if_neg h]; rfl
theorem tS0_other (k : Nat) (lg : tLog) (a x : Int32) (h1 : ¬ a = 1) (h4 : ¬ a = 4) : tS0 k (lg ++ [(a, x)]) = tS0 k lg := by unfold tS0; rw [opc_other 1 h1, opc_other 4 h4]
set_option maxHeartbeats 1000000 in
theorem c_attempt {A : Nat → Nat → Bool} (hg : hG n nr tn A) (hk : Gok n A) {k d : Nat} (hV : VisP n nr tn U L2 L3 C P r A k d) (K : tK) (L1 : tL) (col : tCol) (u : Nat) (lg : tLog) (dep v c : Nat) (hK : kC K n A col u) (hc : Cok n col u) (hL : lC L1 lg) (hd : cnt (brP n col) n < d + 1) (hdep : dep + cnt (brP n col) n ≤ n) (hv : v < n) (hv0 : col v = none) (hcu : c ≤ u) (hc30 : c < 30) :
    aRet (3 * d + 6) 0 0 mX4_attempt [.ref 8, .int (nI v), .int (nI c), .int (nI dep)] (cp (nI n, nr, tn) K (tS0 k lg) L1 U L2 L3 C P r) (Qv n nr tn U L2 L3 C P r A k (attS n A k d col u v c lg)) := by
  have hn := hk.1
  have hbr := cnt_brP_set (c := c) hv hv0
  refine aRet.of (by decide) (Nat.le_of_ble_eq_true rfl) (a_ok2 rfl) ?_
  refine g_aload_n (i := 0) (pc1 := 1) dX4_attempt_0 rfl rfl rfl ?_
  refine g_iconst (v := 3) (pc1 := 2) dX4_attempt_1 rfl (by decide) ?_
  refine g_iload_n (i := 2) (pc1 := 3) dX4_attempt_2 rfl rfl rfl ?_
  refine g_V2 (M := mX4_write) (pc1 := 6) dX4_attempt_3 rfl lkX4_58 tmX4_write rfl (c_swrite K (tS0 k lg) L1 U L2 L3 C P r (nI n, nr, tn) hL 3 (nI c)) (by show _ ≤ 3 * d + 6; omega) rfl (Nat.le_of_ble_eq_true rfl) (Nat.le_of_ble_eq_true rfl) ?_
  rintro _ _ (⟨h1, rfl, L', h2, rfl⟩ | ⟨h1, rfl, rfl⟩)
  · refine g_iconst (v := 2) (pc1 := 7) dX4_attempt_6 rfl (by decide) ?_
    refine g_icmp_ne (pc1 := 10) (tgt := 12) dX4_attempt_7 rfl (by decide) (fun _ => ?_) (fun c => absurd c (by decide))
    refine g_aload_n (i := 0) (pc1 := 13) dX4_attempt_12 rfl rfl rfl ?_
    refine g_get (pc1 := 16) dX4_attempt_13 rfl flX4_32 rfl rfl ?_
    refine g_iload_n (i := 1) (pc1 := 17) dX4_attempt_16 rfl rfl rfl ?_
    refine g_iload_n (i := 2) (pc1 := 18) dX4_attempt_17 rfl rfl rfl ?_
    refine g_V2 (M := mX1_give) (pc1 := 21) dX4_attempt_18 rfl lkX4_97 tmX1_give rfl (c_give n nr tn K (tS0 k lg) L' U L2 L3 C P r hg hk hK hc hv hv0 hcu hc30) (by show _ ≤ 3 * d + 6; omega) rfl (Nat.le_of_ble_eq_true rfl) (Nat.le_of_ble_eq_true rfl) ?_
    rintro _ _ ⟨rfl, K1, hK1, rfl⟩
    show aGo _ 21 _ [] _ _ _
    refine g_aload_n (i := 0) (pc1 := 22) dX4_attempt_21 rfl rfl rfl ?_
    refine g_iload_n (i := 3) (pc1 := 23) dX4_attempt_22 rfl rfl rfl ?_
    refine g_iconst (v := 1) (pc1 := 24) dX4_attempt_23 rfl (by decide) ?_
    refine g_iadd (pc1 := 25) dX4_attempt_24 rfl ?_
    have hc1 := hc.set hv hv0 hcu hc30
    rw [show nI dep + 1 = nI (dep + 1) from nI_1 dep, show tS0 k lg = tS0 k (lg ++ [(3, nI c)]) from (tS0_other k lg _ _ (by decide) (by decide)).symm]
    refine g_V1 (M := mX4_visit) (pc1 := 28) dX4_attempt_25 rfl lkX4_44 tmX4_visit rfl (hV K1 L' (cset col v c) (up1 u c) (lg ++ [(3, nI c)]) (dep + 1) hK1 hc1 h2 (by omega) (by omega)) (by show _ ≤ 3 * d + 6; omega) rfl (Nat.le_of_ble_eq_true rfl) (Nat.le_of_ble_eq_true rfl) ?_
    generalize hR : vis n A k d (cset col v c) (up1 u c) (lg ++ [(3, nI c)]) = R
    have hat : attS n A k d col u v c lg = if R.1 = 0 then (0, R.2.1, col, u) else R := by unfold attS; rw [if_pos h1, hR]
    have hle : R.1 ≤ 2 := by rw [← hR]; exact vis_le d _ _ _
    rintro _ _ ⟨K2, S2, L2', rfl, rfl, hq⟩
    refine g_istore (pc1 := 30) dX4_attempt_28 rfl (Nat.le_of_ble_eq_true rfl) ?_
    refine g_iload (pc1 := 32) dX4_attempt_30 rfl rfl ?_
    refine g_if_ne (pc1 := 35) (tgt := 44) dX4_attempt_32 rfl (by decide) (fun c9 => ?_) (fun c9 => ?_)
    · have hz : ¬ R.1 = 0 := fun e => c9 (by rw [e]; rfl)
      refine g_iload (pc1 := 46) dX4_attempt_44 rfl rfl ?_
      refine g_iret dX4_attempt_46 rfl rfl (Nat.le_of_ble_eq_true rfl) (Nat.le_of_ble_eq_true rfl) ?_
      rw [hat, if_neg hz]
      exact ⟨K2, S2, L2', rfl, rfl, hq⟩
    · have hz : R.1 = 0 := (nI_eq (a := R.1) (b := 0) (by omega) (by omega)).mp c9
      obtain ⟨q1, q2, q3⟩ := hq (by omega)
      have hbk : R.2.2 = (cset col v c, up1 u c) := by rw [← hR]; exact vis_back _ _ _ _ (by rw [hR]; exact hz)
      rw [hbk] at q1
      refine g_aload_n (i := 0) (pc1 := 36) dX4_attempt_35 rfl rfl rfl ?_
      refine g_get (pc1 := 39) dX4_attempt_36 rfl flX4_32 rfl rfl ?_
      refine g_iload_n (i := 1) (pc1 := 40) dX4_attempt_39 rfl rfl rfl ?_
      refine g_iload_n (i := 2) (pc1 := 41) dX4_attempt_40 rfl rfl rfl ?_
      refine g_V2 (M := mX1_strip) (pc1 := 44) dX4_attempt_41 rfl lkX4_101 tmX1_strip rfl (c_strip n nr tn K2 S2 L2' U L2 L3 C P r hg hk q1 hc hv hv0 hcu hc30) (by show _ ≤ 3 * d + 6; omega) rfl (Nat.le_of_ble_eq_true rfl) (Nat.le_of_ble_eq_true rfl) ?_
      rintro _ _ ⟨rfl, K3, hK3, rfl⟩
      show aGo _ 44 _ [] _ _ _
      refine g_iload (pc1 := 46) dX4_attempt_44 rfl rfl ?_
      refine g_iret dX4_attempt_46 rfl rfl (Nat.le_of_ble_eq_true rfl) (Nat.le_of_ble_eq_true rfl) ?_
      rw [hat, if_pos hz]
      refine ⟨K3, S2, L2', by rw [hz], rfl, fun _ => ⟨hK3, q2, q3⟩⟩
  · refine g_iconst (v := 2) (pc1 := 7) dX4_attempt_6 rfl (by decide) ?_
    refine g_icmp_ne (pc1 := 10) (tgt := 12) dX4_attempt_7 rfl (by decide) (fun c => absurd c (fun h => h rfl)) (fun _ => ?_)
    refine g_iconst (v := 2) (pc1 := 11) dX4_attempt_10 rfl (by decide) ?_
    refine g_iret dX4_attempt_11 rfl rfl (Nat.le_of_ble_eq_true rfl) (Nat.le_of_ble_eq_true rfl) ?_
    refine ⟨K, tS0 k lg, L1, ?_, rfl, fun hq => ?_⟩
    · unfold attS; rw [if_neg h1]; rfl
    · unfold attS at hq; rw [if_neg h1] at hq; exact absurd rfl hq
def braS (n : Nat) (A : Nat → Nat → Bool) (k d : Nat) (col : tCol) (u v : Nat) (lg : tLog) : tR :=
  if lg.length < 3000 then brl (vis n A k d) n A k col u v 31 0 (lg ++ [(1, nI v)]) else (2, lg, col, u)
set_option maxHeartbeats 2000000 in
theorem c_branch {A : Nat → Nat → Bool} (hg : hG n nr tn A) (hk : Gok n A) {k d : Nat} (hk30 : k ≤ 30) (hV : VisP n nr tn U L2 L3 C P r A k d) (K : tK) (L1 : tL) (col : tCol) (u : Nat) (lg : tLog) (dep v : Nat) (hK : kC K n A col u) (hc : Cok n col u) (hL : lC L1 lg) (hd : cnt (brP n col) n < d + 1) (hdep : dep + cnt (brP n col) n ≤ n) (hch : chS n A col = some v) :
    aRet (3 * d + 7) 0 0 mX4_branch [.ref 8, .int (nI dep)] (cp (nI n, nr, tn) K (tS0 k lg) L1 U L2 L3 C P r) (Qv n nr tn U L2 L3 C P r A k (braS n A k d col u v lg)) := by
  have hn := hk.1
  obtain ⟨hv, hv0⟩ := chS_some hch
  have hun := hc.lt hv hv0
  refine aRet.of (by decide) (Nat.le_of_ble_eq_true rfl) (a_ok2 rfl) ?_
  refine g_aload_n (i := 0) (pc1 := 1) dX4_branch_0 rfl rfl rfl ?_
  refine g_get (pc1 := 4) dX4_branch_1 rfl flX4_32 rfl rfl ?_
  refine g_V0 (M := mX1_choice) (pc1 := 7) dX4_branch_4 rfl lkX4_80 tmX1_choice rfl (c_choice n nr tn K (tS0 k lg) L1 U L2 L3 C P r hg hk hK hc) (by show _ ≤ 3 * d + 7; omega) rfl (Nat.le_of_ble_eq_true rfl) (Nat.le_of_ble_eq_true rfl) ?_
  rintro _ _ ⟨rfl, rfl⟩
  rw [hch]
  have hne : ¬ enO (some v) = -1 := fun e => by
    have := (enO_ne (o := some v) (fun w hw => by cases hw; omega)).mp e
    cases this
  refine g_istore_n (i := 2) (pc1 := 8) dX4_branch_7 rfl rfl (Nat.le_of_ble_eq_true rfl) ?_
  refine g_iload_n (i := 2) (pc1 := 9) dX4_branch_8 rfl rfl rfl ?_
  refine g_iconst (v := (-1)) (pc1 := 10) dX4_branch_9 rfl (by decide) ?_
  refine g_icmp_eq (pc1 := 13) (tgt := 23) dX4_branch_10 rfl (by decide) (fun c => absurd c hne) (fun _ => ?_)
  show aGo _ 13 [.ref 8, .int (nI dep), .int (nI v), .null, .null, .null] _ _ _ _
  refine g_aload_n (i := 0) (pc1 := 14) dX4_branch_13 rfl rfl rfl ?_
  refine g_iconst (v := 1) (pc1 := 15) dX4_branch_14 rfl (by decide) ?_
  refine g_iload_n (i := 2) (pc1 := 16) dX4_branch_15 rfl rfl rfl ?_
  refine g_V2 (M := mX4_write) (pc1 := 19) dX4_branch_16 rfl lkX4_58 tmX4_write rfl (c_swrite K (tS0 k lg) L1 U L2 L3 C P r (nI n, nr, tn) hL 1 (nI v)) (by show _ ≤ 3 * d + 7; omega) rfl (Nat.le_of_ble_eq_true rfl) (Nat.le_of_ble_eq_true rfl) ?_
  rintro _ _ (⟨h1, rfl, L0, h2, rfl⟩ | ⟨h1, rfl, rfl⟩)
  · have hbr : braS n A k d col u v lg = brl (vis n A k d) n A k col u v (31 - 0) 0 (lg ++ [(1, nI v)]) := by unfold braS; rw [if_pos h1]
    refine g_iconst (v := 2) (pc1 := 20) dX4_branch_19 rfl (by decide) ?_
    refine g_icmp_ne (pc1 := 23) (tgt := 25) dX4_branch_20 rfl (by decide) (fun _ => ?_) (fun c => absurd c (by decide))
    refine g_aload_n (i := 0) (pc1 := 26) dX4_branch_25 rfl rfl rfl ?_
    refine g_dup (pc1 := 27) dX4_branch_26 rfl rfl ?_
    refine g_get (pc1 := 30) dX4_branch_27 rfl flX4_22 rfl rfl ?_
    refine g_iconst (v := 1) (pc1 := 31) dX4_branch_30 rfl (by decide) ?_
    refine g_iadd (pc1 := 32) dX4_branch_31 rfl ?_
    refine g_puti (pc1 := 35) dX4_branch_32 rfl flX4_22 rfl (Nat.le_of_ble_eq_true rfl) rfl rfl ?_
    refine g_aload_n (i := 0) (pc1 := 36) dX4_branch_35 rfl rfl rfl ?_
    refine g_get (pc1 := 39) dX4_branch_36 rfl flX4_32 rfl rfl ?_
    refine g_get (pc1 := 42) dX4_branch_39 rfl flX4_83 rfl rfl ?_
    refine g_istore_n (i := 3) (pc1 := 43) dX4_branch_42 rfl rfl (Nat.le_of_ble_eq_true rfl) ?_
    refine g_iconst (v := 0) (pc1 := 44) dX4_branch_43 rfl (by decide) ?_
    refine g_istore (pc1 := 46) dX4_branch_44 rfl (Nat.le_of_ble_eq_true rfl) ?_
    rw [show K.2.2.2.2 = nI u from hK.2.2.2.2]
    have key : ∀ (K1 : tK) (L1 : tL) (lg1 : tLog), kC K1 n A col u → lC L1 lg1 → braS n A k d col u v lg = brl (vis n A k d) n A k col u v (31 - 0) 0 lg1 → aGo (3 * d + 7, 0, 0, mX4_branch, none, Qv n nr tn U L2 L3 C P r A k (braS n A k d col u v lg)) 46 [.ref 8, .int (nI dep), .int (nI v), .int (nI u), .int (nI 0), .null] [] (cp (nI n, nr, tn) K1 (tS0 k lg1) L1 U L2 L3 C P r) 0 0 := by
      refine down0 (P := fun c => ∀ (K1 : tK) (L1 : tL) (lg1 : tLog), kC K1 n A col u → lC L1 lg1 → braS n A k d col u v lg = brl (vis n A k d) n A k col u v (31 - c) c lg1 → aGo _ 46 [.ref 8, .int (nI dep), .int (nI v), .int (nI u), .int (nI c), .null] [] (cp (nI n, nr, tn) K1 (tS0 k lg1) L1 U L2 L3 C P r) 0 0) 31 ?_ ?_
      · intro K1 L1 lg1 hK1 hL1 hR
        refine g_iload (pc1 := 48) dX4_branch_46 rfl rfl ?_
        refine g_aload_n (i := 0) (pc1 := 49) dX4_branch_48 rfl rfl rfl ?_
        refine g_get (pc1 := 52) dX4_branch_49 rfl flX4_9 rfl rfl ?_
        refine g_icmp_ge (pc1 := 55) (tgt := 116) dX4_branch_52 rfl (by decide) (fun _ => ?_) (fun c => absurd ((nI_leI (a := k) (b := 31) (by omega) (by omega)).mpr (by omega)) c)
        refine g_iconst (v := 0) (pc1 := 117) dX4_branch_116 rfl (by decide) ?_
        refine g_iret dX4_branch_117 rfl rfl (Nat.le_of_ble_eq_true rfl) (Nat.le_of_ble_eq_true rfl) ?_
        rw [hR]
        exact ⟨K1, tS0 k lg1, L1, rfl, rfl, fun _ => ⟨hK1, hL1, rfl⟩⟩
      · intro c hc31 ih K1 L1 lg1 hK1 hL1 hR
        rw [show 31 - c = (31 - (c + 1)) + 1 by omega] at hR
        unfold brl at hR
        refine g_iload (pc1 := 48) dX4_branch_46 rfl rfl ?_
        refine g_aload_n (i := 0) (pc1 := 49) dX4_branch_48 rfl rfl rfl ?_
        refine g_get (pc1 := 52) dX4_branch_49 rfl flX4_9 rfl rfl ?_
        refine g_icmp_ge (pc1 := 55) (tgt := 116) dX4_branch_52 rfl (by decide) (fun c1 => ?_) (fun c1 => ?_)
        · have hkc : ¬ c < k := by
            have := (nI_leI (a := k) (b := c) (by omega) (by omega)).mp c1
            omega
          rw [if_neg (fun h => hkc h.1)] at hR
          refine g_iconst (v := 0) (pc1 := 117) dX4_branch_116 rfl (by decide) ?_
          refine g_iret dX4_branch_117 rfl rfl (Nat.le_of_ble_eq_true rfl) (Nat.le_of_ble_eq_true rfl) ?_
          rw [hR]
          exact ⟨K1, tS0 k lg1, L1, rfl, rfl, fun _ => ⟨hK1, hL1, rfl⟩⟩
        · have hkc : c < k := by
            have : ¬ k ≤ c := fun q => c1 ((nI_leI (a := k) (b := c) (by omega) (by omega)).mpr q)
            omega
          refine g_iload (pc1 := 57) dX4_branch_55 rfl rfl ?_
          refine g_iload_n (i := 3) (pc1 := 58) dX4_branch_57 rfl rfl rfl ?_
          refine g_icmp_gt (pc1 := 61) (tgt := 116) dX4_branch_58 rfl (by decide) (fun c2 => ?_) (fun c2 => ?_)
          · have hcu : ¬ c ≤ u := by
              have := (nI_ltI (a := u) (b := c) (by omega) (by omega)).mp c2
              omega
            rw [if_neg (fun h => hcu h.2)] at hR
            refine g_iconst (v := 0) (pc1 := 117) dX4_branch_116 rfl (by decide) ?_
            refine g_iret dX4_branch_117 rfl rfl (Nat.le_of_ble_eq_true rfl) (Nat.le_of_ble_eq_true rfl) ?_
            rw [hR]
            exact ⟨K1, tS0 k lg1, L1, rfl, rfl, fun _ => ⟨hK1, hL1, rfl⟩⟩
          · have hcu : c ≤ u := by
              have : ¬ u < c := fun q => c2 ((nI_ltI (a := u) (b := c) (by omega) (by omega)).mpr q)
              omega
            rw [if_pos ⟨hkc, hcu⟩] at hR
            have hc30 : c < 30 := by omega
            refine g_aload_n (i := 0) (pc1 := 62) dX4_branch_61 rfl rfl rfl ?_
            refine g_get (pc1 := 65) dX4_branch_62 rfl flX4_32 rfl rfl ?_
            refine g_iload_n (i := 2) (pc1 := 66) dX4_branch_65 rfl rfl rfl ?_
            refine g_iload (pc1 := 68) dX4_branch_66 rfl rfl ?_
            refine g_V2 (M := mX1_blocked) (pc1 := 71) dX4_branch_68 rfl lkX4_86 tmX1_blocked rfl (c_blocked n nr tn K1 (tS0 k lg1) L1 U L2 L3 C P r hK1 (v := v) (c := c) (by omega) (by omega)) (by show _ ≤ 3 * d + 7; omega) rfl (Nat.le_of_ble_eq_true rfl) (Nat.le_of_ble_eq_true rfl) ?_
            rintro _ _ ⟨rfl, rfl⟩
            have hnx : ∀ (x : Int32) (K2 : tK) (L2' : tL) (lg2 : tLog), x = 0 → kC K2 n A col u → lC L2' lg2 → braS n A k d col u v lg = brl (vis n A k d) n A k col u v (31 - (c + 1)) (c + 1) lg2 → aGo (3 * d + 7, 0, 0, mX4_branch, none, Qv n nr tn U L2 L3 C P r A k (braS n A k d col u v lg)) 100 [.ref 8, .int (nI dep), .int (nI v), .int (nI u), .int (nI c), .null] [.int x] (cp (nI n, nr, tn) K2 (tS0 k lg2) L2' U L2 L3 C P r) 0 0 := by
              rintro x K2 L2' lg2 rfl hK2 hL2 hR2
              refine g_istore (pc1 := 102) dX4_branch_100 rfl (Nat.le_of_ble_eq_true rfl) ?_
              refine g_iload (pc1 := 104) dX4_branch_102 rfl rfl ?_
              refine g_if_eq (pc1 := 107) (tgt := 110) dX4_branch_104 rfl (by decide) (fun _ => ?_) (fun c => absurd rfl c)
              refine g_iinc (pc1 := 113) dX4_branch_110 rfl rfl rfl ?_
              refine g_goto (tgt := 46) dX4_branch_113 (by decide) ?_
              refine aGo.forget 5 ?_
              refine aGo.eq (ih K2 L2' lg2 hK2 hL2 hR2) ?_ rfl rfl
              show [Value.ref 8, .int (nI dep), .int (nI v), .int (nI u), .int (nI c + Int32.ofInt 1), .null] = _
              rw [show nI c + Int32.ofInt 1 = nI (c + 1) from nI_1 c]
            have hfl : ∀ (x : Int32) (g : List aC), ¬ x = 0 → Qv n nr tn U L2 L3 C P r A k (braS n A k d col u v lg) (some (.int x)) g → aGo (3 * d + 7, 0, 0, mX4_branch, none, Qv n nr tn U L2 L3 C P r A k (braS n A k d col u v lg)) 100 [.ref 8, .int (nI dep), .int (nI v), .int (nI u), .int (nI c), .null] [.int x] g 0 0 := by
              intro x g hx hq
              refine g_istore (pc1 := 102) dX4_branch_100 rfl (Nat.le_of_ble_eq_true rfl) ?_
              refine g_iload (pc1 := 104) dX4_branch_102 rfl rfl ?_
              refine g_if_eq (pc1 := 107) (tgt := 110) dX4_branch_104 rfl (by decide) (fun c => absurd c hx) (fun _ => ?_)
              refine g_iload (pc1 := 109) dX4_branch_107 rfl rfl ?_
              refine g_iret dX4_branch_109 rfl rfl (Nat.le_of_ble_eq_true rfl) (Nat.le_of_ble_eq_true rfl) ?_
              exact hq
            refine g_if_eq (pc1 := 74) (tgt := 92) dX4_branch_71 rfl (by decide) (fun c3 => ?_) (fun c3 => ?_)
            · rw [bI_eq0] at c3
              refine g_aload_n (i := 0) (pc1 := 93) dX4_branch_92 rfl rfl rfl ?_
              refine g_iload_n (i := 2) (pc1 := 94) dX4_branch_93 rfl rfl rfl ?_
              refine g_iload (pc1 := 96) dX4_branch_94 rfl rfl ?_
              refine g_iload_n (i := 1) (pc1 := 97) dX4_branch_96 rfl rfl rfl ?_
              refine g_V3 (M := mX4_attempt) (pc1 := 100) dX4_branch_97 rfl lkX4_93 tmX4_attempt rfl (c_attempt n nr tn U L2 L3 C P r hg hk hV K1 L1 col u lg1 dep v c hK1 hc hL1 hd hdep hv hv0 hcu hc30) (by show _ ≤ 3 * d + 7; omega) rfl (Nat.le_of_ble_eq_true rfl) (Nat.le_of_ble_eq_true rfl) ?_
              rintro _ _ ⟨K2, S2, L2', rfl, rfl, hq⟩
              by_cases hl : lg1.length < 3000
              · rw [if_pos hl, if_neg (by rw [c3]; decide)] at hR
                have hat : attS n A k d col u v c lg1 = if (vis n A k d (cset col v c) (up1 u c) (lg1 ++ [(3, nI c)])).1 = 0 then (0, (vis n A k d (cset col v c) (up1 u c) (lg1 ++ [(3, nI c)])).2.1, col, u) else vis n A k d (cset col v c) (up1 u c) (lg1 ++ [(3, nI c)]) := by unfold attS; rw [if_pos hl]
                have hle : (vis n A k d (cset col v c) (up1 u c) (lg1 ++ [(3, nI c)])).1 ≤ 2 := vis_le d _ _ _
                by_cases hz : (vis n A k d (cset col v c) (up1 u c) (lg1 ++ [(3, nI c)])).1 = 0
                · rw [if_pos hz] at hat hR
                  rw [hat] at hq ⊢
                  obtain ⟨q1, q2, q3⟩ := hq (show (0 : Nat) ≠ 2 by decide)
                  have q3 : S2 = tS0 k (vis n A k d (cset col v c) (up1 u c) (lg1 ++ [(3, nI c)])).2.1 := q3
                  rw [q3]
                  exact hnx _ K2 L2' _ rfl q1 q2 hR
                · rw [if_neg hz] at hat hR
                  rw [hat] at hq ⊢
                  refine hfl _ _ ?_ ?_
                  · exact nI_ne0 (by omega) (by omega)
                  · rw [hR]; exact ⟨K2, S2, L2', rfl, rfl, hq⟩
              · rw [if_neg hl] at hR
                have hat : attS n A k d col u v c lg1 = (2, lg1, col, u) := by unfold attS; rw [if_neg hl]
                rw [hat] at hq ⊢
                refine hfl _ _ (show ¬ nI 2 = 0 by decide) ?_
                rw [hR]
                exact ⟨K2, S2, L2', rfl, rfl, fun h => absurd rfl h⟩
            · rw [bI_ne0] at c3
              have hlt : nbW n A col v c < n := lst_lt.mpr c3
              refine g_aload_n (i := 0) (pc1 := 75) dX4_branch_74 rfl rfl rfl ?_
              refine g_iconst (v := 2) (pc1 := 76) dX4_branch_75 rfl (by decide) ?_
              refine g_aload_n (i := 0) (pc1 := 77) dX4_branch_76 rfl rfl rfl ?_
              refine g_get (pc1 := 80) dX4_branch_77 rfl flX4_32 rfl rfl ?_
              refine g_iload_n (i := 2) (pc1 := 81) dX4_branch_80 rfl rfl rfl ?_
              refine g_iload (pc1 := 83) dX4_branch_81 rfl rfl ?_
              refine g_V2 (M := mX1_leastNeighbourWith) (pc1 := 86) dX4_branch_83 rfl lkX4_90 tmX1_leastNeighbourWith rfl (c_leastNeighbourWith n nr tn K1 (tS0 k lg1) L1 U L2 L3 C P r hg hk hK1 (v := v) (c := c) (by omega) hc30) (by show _ ≤ 3 * d + 7; omega) rfl (Nat.le_of_ble_eq_true rfl) (Nat.le_of_ble_eq_true rfl) ?_
              rintro _ _ ⟨rfl, rfl⟩
              rw [show enL n (nbW n A col v c) = nI (nbW n A col v c) from if_pos hlt]
              show aGo _ 86 _ [.int _, .int 2, .ref 8] _ _ _
              refine g_V2 (M := mX4_write) (pc1 := 89) dX4_branch_86 rfl lkX4_58 tmX4_write rfl (c_swrite K1 (tS0 k lg1) L1 U L2 L3 C P r (nI n, nr, tn) hL1 2 (nI (nbW n A col v c))) (by show _ ≤ 3 * d + 7; omega) rfl (Nat.le_of_ble_eq_true rfl) (Nat.le_of_ble_eq_true rfl) ?_
              rintro _ _ (⟨h3, rfl, L4, h4, rfl⟩ | ⟨h3, rfl, rfl⟩)
              · rw [if_pos h3, if_pos c3] at hR
                refine g_goto (tgt := 100) dX4_branch_89 (by decide) ?_
                rw [show tS0 k lg1 = tS0 k (lg1 ++ [(2, nI (nbW n A col v c))]) from (tS0_other k lg1 _ _ (by decide) (by decide)).symm]
                exact hnx 0 K1 L4 _ rfl hK1 h4 hR
              · rw [if_neg h3] at hR
                refine g_goto (tgt := 100) dX4_branch_89 (by decide) ?_
                refine hfl 2 _ (by decide) ?_
                rw [hR]
                exact ⟨K1, tS0 k lg1, L1, rfl, rfl, fun h => absurd rfl h⟩
    refine aGo.eq (key K L0 (lg ++ [(1, nI v)]) hK h2 hbr) rfl rfl ?_
    have e1 : tS0 k (lg ++ [(1, nI v)]) = (nI k, nI (opc 1 lg) + 1, nI (opc 4 lg)) := by
      unfold tS0
      rw [opc_app, if_pos rfl, opc_other 4 (by decide), nI_1]
    rw [e1]
    rfl
  · refine g_iconst (v := 2) (pc1 := 20) dX4_branch_19 rfl (by decide) ?_
    refine g_icmp_ne (pc1 := 23) (tgt := 25) dX4_branch_20 rfl (by decide) (fun c => absurd c (fun h => h rfl)) (fun _ => ?_)
    refine g_iconst (v := 2) (pc1 := 24) dX4_branch_23 rfl (by decide) ?_
    refine g_iret dX4_branch_24 rfl rfl (Nat.le_of_ble_eq_true rfl) (Nat.le_of_ble_eq_true rfl) ?_
    have : braS n A k d col u v lg = (2, lg, col, u) := by unfold braS; rw [if_neg h1]
    rw [this]
    exact ⟨K, tS0 k lg, L1, rfl, rfl, fun h => absurd rfl h⟩
set_option maxHeartbeats 1000000 in
theorem c_visit {A : Nat → Nat → Bool} (hg : hG n nr tn A) (hk : Gok n A) {k : Nat} (hk30 : k ≤ 30) : ∀ d, VisP n nr tn U L2 L3 C P r A k d := by
  have hn := hk.1
  intro d
  induction d with
  | zero => intro K L1 col u lg dep hK hc hL hd; exact absurd hd (Nat.not_lt_zero _)
  | succ d hV =>
    intro K L1 col u lg dep hK hc hL hd hdep
    rw [show 3 * (d + 1) + 5 = 3 * d + 8 by omega]
    have hRv : vis n A k (d + 1) col u lg = (match chS n A col with
      | none => (1, lg, col, u)
      | some v => match tgt n A col k with
        | some T => if lg.length < 3000 then (0, lg ++ [(4, bS T)], col, u) else (2, lg, col, u)
        | none => braS n A k d col u v lg) := by
      unfold vis
      cases h1 : chS n A col with
      | none => rfl
      | some v =>
        cases h2 : tgt n A col k with
        | none => rfl
        | some T => rfl
    refine aRet.of (by decide) (Nat.le_of_ble_eq_true rfl) (a_ok2 rfl) ?_
    refine g_aload_n (i := 0) (pc1 := 1) dX4_visit_0 rfl rfl rfl ?_
    refine g_get (pc1 := 4) dX4_visit_1 rfl flX4_32 rfl rfl ?_
    refine g_get (pc1 := 7) dX4_visit_4 rfl flX4_48 rfl rfl ?_
    rw [hK.2.2.2.1]
    refine g_if_ne (pc1 := 10) (tgt := 12) dX4_visit_7 rfl (by decide) (fun c1 => ?_) (fun c1 => ?_)
    · cases hch : chS n A col with
      | none =>
        refine absurd (bS_eq0.mpr fun i _ => ?_) c1
        by_cases hi : i < n
        · exact amx_none.mp hch i hi
        · simp [brP, hi]
      | some v =>
        obtain ⟨hv, hv0⟩ := chS_some hch
        have hpos : 0 < cnt (brP n col) n := cnt_pos hv (by simp [brP, hv, hv0])
        rw [hch] at hRv
        simp only [] at hRv
        refine g_iload_n (i := 1) (pc1 := 13) dX4_visit_12 rfl rfl rfl ?_
        refine g_bipush (v := 30) (pc1 := 15) dX4_visit_13 rfl (by decide) ?_
        refine g_icmp_lt (pc1 := 18) (tgt := 20) dX4_visit_15 rfl (by decide) (fun _ => ?_) (fun c => absurd ((nI_ltI (a := dep) (b := 30) (by omega) (by omega)).mpr (by omega)) c)
        refine g_aload_n (i := 0) (pc1 := 21) dX4_visit_20 rfl rfl rfl ?_
        refine g_V0 (M := mX4_tightClique) (pc1 := 24) dX4_visit_21 rfl lkX4_51 tmX4_tightClique rfl (c_tightClique n nr tn K (tS0 k lg) L1 U L2 L3 C P r hg hk hK hc rfl hk30) (by show _ ≤ 3 * d + 8; omega) rfl (Nat.le_of_ble_eq_true rfl) (Nat.le_of_ble_eq_true rfl) ?_
        rintro _ _ ⟨rfl, rfl⟩
        refine g_istore_n (i := 2) (pc1 := 25) dX4_visit_24 rfl rfl (Nat.le_of_ble_eq_true rfl) ?_
        refine g_iload_n (i := 2) (pc1 := 26) dX4_visit_25 rfl rfl rfl ?_
        cases hT : tgt n A col k with
        | none =>
          rw [hT] at hRv
          simp only [] at hRv
          refine g_if_ne (pc1 := 29) (tgt := 35) dX4_visit_26 rfl (by decide) (fun c => absurd c (fun h => h rfl)) (fun _ => ?_)
          refine g_aload_n (i := 0) (pc1 := 30) dX4_visit_29 rfl rfl rfl ?_
          refine g_iload_n (i := 1) (pc1 := 31) dX4_visit_30 rfl rfl rfl ?_
          refine g_V1 (M := mX4_branch) (pc1 := 34) dX4_visit_31 rfl lkX4_55 tmX4_branch rfl (c_branch n nr tn U L2 L3 C P r hg hk hk30 hV K L1 col u lg dep v hK hc hL hd hdep hch) (by show _ ≤ 3 * d + 8; omega) rfl (Nat.le_of_ble_eq_true rfl) (Nat.le_of_ble_eq_true rfl) ?_
          rintro _ _ ⟨K2, S2, L2', rfl, rfl, hq⟩
          refine g_iret dX4_visit_34 rfl rfl (Nat.le_of_ble_eq_true rfl) (Nat.le_of_ble_eq_true rfl) ?_
          rw [hRv]
          exact ⟨K2, S2, L2', rfl, rfl, hq⟩
        | some T =>
          rw [hT] at hRv
          simp only [] at hRv
          have hTne : ¬ enT (some T) = 0 := by
            intro h0
            have h1 := bS_eq0.mp h0
            obtain ⟨v', hv'⟩ := tg_ne hk.1 (show tg n A col k n 0 = some T from hT)
            rw [h1 v' (by omega)] at hv'
            cases hv'.2
          refine g_if_ne (pc1 := 29) (tgt := 35) dX4_visit_26 rfl (by decide) (fun _ => ?_) (fun c => absurd c hTne)
          show aGo _ 35 [.ref 8, .int (nI dep), .int (bS T)] _ _ _ _
          refine g_aload_n (i := 0) (pc1 := 36) dX4_visit_35 rfl rfl rfl ?_
          refine g_dup (pc1 := 37) dX4_visit_36 rfl rfl ?_
          refine g_get (pc1 := 40) dX4_visit_37 rfl flX4_25 rfl rfl ?_
          refine g_iconst (v := 1) (pc1 := 41) dX4_visit_40 rfl (by decide) ?_
          refine g_iadd (pc1 := 42) dX4_visit_41 rfl ?_
          refine g_puti (pc1 := 45) dX4_visit_42 rfl flX4_25 rfl (Nat.le_of_ble_eq_true rfl) rfl rfl ?_
          refine g_aload_n (i := 0) (pc1 := 46) dX4_visit_45 rfl rfl rfl ?_
          refine g_iconst (v := 4) (pc1 := 47) dX4_visit_46 rfl (by decide) ?_
          refine g_iload_n (i := 2) (pc1 := 48) dX4_visit_47 rfl rfl rfl ?_
          refine g_V2 (M := mX4_write) (pc1 := 51) dX4_visit_48 rfl lkX4_58 tmX4_write rfl (c_swrite K (nI k, nI (opc 1 lg), nI (opc 4 lg) + 1) L1 U L2 L3 C P r (nI n, nr, tn) hL 4 (bS T)) (by show _ ≤ 3 * d + 8; omega) rfl (Nat.le_of_ble_eq_true rfl) (Nat.le_of_ble_eq_true rfl) ?_
          rintro _ _ (⟨h3, rfl, L4, h4, rfl⟩ | ⟨h3, rfl, rfl⟩)
          · rw [if_pos h3] at hRv
            refine g_iret dX4_visit_51 rfl rfl (Nat.le_of_ble_eq_true rfl) (Nat.le_of_ble_eq_true rfl) ?_
            rw [hRv]
            refine ⟨K, _, L4, rfl, rfl, fun _ => ⟨hK, h4, ?_⟩⟩
            show (nI k, nI (opc 1 lg), nI (opc 4 lg) + 1) = (nI k, nI (opc 1 (lg ++ [(4, bS T)])), nI (opc 4 (lg ++ [(4, bS T)])))
            rw [opc_other 1 (by decide), opc_app, if_pos rfl, nI_1]
          · rw [if_neg h3] at hRv
            refine g_iret dX4_visit_51 rfl rfl (Nat.le_of_ble_eq_true rfl) (Nat.le_of_ble_eq_true rfl) ?_
            rw [hRv]
            exact ⟨K, _, L1, rfl, rfl, fun h => absurd rfl h⟩
    · have hch : chS n A col = none := amx_none.mpr fun i hi => bS_eq0.mp c1 i (by omega)
      rw [hch] at hRv
      simp only [] at hRv
      refine g_iconst (v := 1) (pc1 := 11) dX4_visit_10 rfl (by decide) ?_
      refine g_iret dX4_visit_11 rfl rfl (Nat.le_of_ble_eq_true rfl) (Nat.le_of_ble_eq_true rfl) ?_
      rw [hRv]
      exact ⟨K, tS0 k lg, L1, rfl, rfl, fun _ => ⟨hK, hL, rfl⟩⟩
end
