/-! ===== the reference: SEARCH as a whole ===== -/
section
variable (x : Nat → aC) (n : Nat) (nr ot : fI) (L T : tW) (V : tM) (P : fI)
/-- behind seek() -/
def skQ (R : tR) (r : Option Value) (g : List aC) : Prop := ∃ (cf sf : fI) (F : tF) (W : tW), g = rp x (nI n, nr, ot) (cf, sf) F W L T V P ∧ r = some (.int (if R.1 = 2 then -3 else nI R.1)) ∧ (R.1 ≠ 2 → rL W R.2.1) ∧ (R.1 = 1 → rK cf R.2.2.1)
abbrev skE (R : tR) : aE := (6, 0, 0, mX8_seek, none, skQ x n nr ot L T V P R)
/-- what is known of the way on, once a part of the search has ended at R -/
def skC (k : Nat) (R0 R : tR) (st : tSk) (col : tCol) : Prop :=
  (R.1 = 0 → ∀ (cf sf : fI) (F : tF) (W : tW), rK cf col → fC F st → rL W R.2.1 → aGo (skE x n nr ot L T V P R0) 20 [.ref 24, .int (nI k), .int 0] [] (rp x (nI n, nr, ot) (cf, sf) F W L T V P) 0 0) ∧ (R.1 ≠ 0 → R = R0)
theorem sk_exit {k : Nat} {R0 : tR} {y : Int32} {g : List aC} (hy : ¬ y = 0) (hq : skQ x n nr ot L T V P R0 (some (.int y)) g) : aGo (skE x n nr ot L T V P R0) 20 [.ref 24, .int (nI k), .int y] [] g 0 0 := by
  refine g_iload_n (i := 2) (pc1 := 21) dX8_seek_20 rfl rfl rfl ?_
  refine g_if_ne (pc1 := 24) (tgt := 55) dX8_seek_21 rfl (by decide) (fun _ => ?_) (fun hbr9 => absurd hbr9 hy)
  refine g_iload_n (i := 2) (pc1 := 56) dX8_seek_55 rfl rfl rfl ?_
  refine g_iret dX8_seek_56 rfl rfl (Nat.le_of_ble_eq_true rfl) (Nat.le_of_ble_eq_true rfl) ?_
  exact hq
def VsP (A : Nat → Nat → Bool) (k : Nat) (R0 : tR) (d : Nat) : Prop := ∀ (col : tCol) (u : Nat) (lg : tLog) (st : tSk), Cok n col u → cnt (brP n col) n < d → st.length + cnt (brP n col) n ≤ n → skC x n nr ot L T V P k R0 (vis n A k d col u lg) st col →
  ∀ (y : Int32) (g : List aC), cmQ x n nr ot L T V P A k col u lg st (some (.int y)) g → aGo (skE x n nr ot L T V P R0) 20 [.ref 24, .int (nI k), .int y] [] g 0 0
set_option maxHeartbeats 1000000 in
theorem sk_branch {A : Nat → Nat → Bool} (hg : rG (nI n, nr, ot) n A) (hk : Gok n A) {k : Nat} (hk30 : k ≤ 30) {R0 : tR} {d : Nat} (hV : VsP x n nr ot L T V P A k R0 d) (col : tCol) (u v : Nat) (st : tSk) (hok : Cok n col u) (hd : cnt (brP n col) n < d + 1) (hst : st.length + cnt (brP n col) n ≤ n) (hv : v < n) (hv0 : col v = none) :
    ∀ (m c : Nat) (lg : tLog), c + m = 31 → skC x n nr ot L T V P k R0 (brl (vis n A k d) n A k col u v m c lg) st col →
    ∀ (cf sf : fI) (F : tF) (W : tW), (∀ w, w < 30 → w ≠ v → cf w = enO (col w)) → fC F (st ++ [(v, c, u)]) → rL W lg →
    aGo (skE x n nr ot L T V P R0) 20 [.ref 24, .int (nI k), .int 0] [] (rp x (nI n, nr, ot) (cf, sf) F W L T V P) 0 0 := by
  have hn := hk.1
  have hbr : ∀ c, cnt (brP n (cset col v c)) n + 1 = cnt (brP n col) n := fun c => cnt_brP_set hv hv0
  have hun := hok.lt hv hv0
  intro m
  induction m with
  | zero =>
    intro c lg hcm hC0 cf sf F W hcf hF hW
    refine g_iload_n (i := 2) (pc1 := 21) dX8_seek_20 rfl rfl rfl ?_
    refine g_if_ne (pc1 := 24) (tgt := 55) dX8_seek_21 rfl (by decide) (fun hbr9 => absurd hbr9 (fun q => q rfl)) (fun _ => ?_)
    refine g_aload_n (i := 0) (pc1 := 25) dX8_seek_24 rfl rfl rfl ?_
    refine g_get (pc1 := 28) dX8_seek_25 rfl flX8_121 rfl rfl ?_
    rw [hF.1]
    refine g_if_le (pc1 := 31) (tgt := 55) dX8_seek_28 rfl (by decide) (fun hbr9 => absurd hbr9 (nI_nle (by rw [List.length_append]; simp) (by have := hF.2.1; omega))) (fun _ => ?_)
    refine g_aload_n (i := 0) (pc1 := 32) dX8_seek_31 rfl rfl rfl ?_
    refine g_iload_n (i := 1) (pc1 := 33) dX8_seek_32 rfl rfl rfl ?_
    refine g_V1 (M := mX8_goOn) (pc1 := 36) dX8_seek_33 rfl lkX8_137 tmX8_goOn rfl (r_goOn x n nr ot L T V P hg hk hk30 cf sf F W hv hv0 hcf hok (by omega) hW hF) (Nat.le_of_ble_eq_true rfl) rfl (Nat.le_of_ble_eq_true rfl) (Nat.le_of_ble_eq_true rfl) ?_
    rintro _ _ ⟨cf', sf', F', W', rfl, hr⟩
    have hno : ¬ (c < k ∧ c ≤ u) := by omega
    rcases hr with ⟨-, rfl, e1, e2, e3⟩ | ⟨q, _⟩ | ⟨q, _⟩ | ⟨q, _⟩
    · refine g_istore_n (i := 2) (pc1 := 37) dX8_seek_36 rfl rfl (Nat.le_of_ble_eq_true rfl) ?_
      refine g_iload_n (i := 2) (pc1 := 38) dX8_seek_37 rfl rfl rfl ?_
      refine g_iconst (v := 1) (pc1 := 39) dX8_seek_38 rfl (by decide) ?_
      refine g_icmp_ne (pc1 := 42) (tgt := 50) dX8_seek_39 rfl (by decide) (fun _ => ?_) (fun hbr9 => absurd hbr9 (by decide))
      refine g_iload_n (i := 2) (pc1 := 51) dX8_seek_50 rfl rfl rfl ?_
      refine g_istore_n (i := 2) (pc1 := 52) dX8_seek_51 rfl rfl (Nat.le_of_ble_eq_true rfl) ?_
      refine g_goto (tgt := 20) dX8_seek_52 (by decide) ?_
      exact hC0.1 rfl cf' sf' F' W' e1 e2 e3
    · exact absurd q hno
    · exact absurd q hno
    · exact absurd q hno
  | succ m ih =>
    intro c lg hcm hC0 cf sf F W hcf hF hW
    unfold brl at hC0
    refine g_iload_n (i := 2) (pc1 := 21) dX8_seek_20 rfl rfl rfl ?_
    refine g_if_ne (pc1 := 24) (tgt := 55) dX8_seek_21 rfl (by decide) (fun hbr9 => absurd hbr9 (fun q => q rfl)) (fun _ => ?_)
    refine g_aload_n (i := 0) (pc1 := 25) dX8_seek_24 rfl rfl rfl ?_
    refine g_get (pc1 := 28) dX8_seek_25 rfl flX8_121 rfl rfl ?_
    rw [hF.1]
    refine g_if_le (pc1 := 31) (tgt := 55) dX8_seek_28 rfl (by decide) (fun hbr9 => absurd hbr9 (nI_nle (by rw [List.length_append]; simp) (by have := hF.2.1; omega))) (fun _ => ?_)
    refine g_aload_n (i := 0) (pc1 := 32) dX8_seek_31 rfl rfl rfl ?_
    refine g_iload_n (i := 1) (pc1 := 33) dX8_seek_32 rfl rfl rfl ?_
    refine g_V1 (M := mX8_goOn) (pc1 := 36) dX8_seek_33 rfl lkX8_137 tmX8_goOn rfl (r_goOn x n nr ot L T V P hg hk hk30 cf sf F W hv hv0 hcf hok (by omega) hW hF) (Nat.le_of_ble_eq_true rfl) rfl (Nat.le_of_ble_eq_true rfl) (Nat.le_of_ble_eq_true rfl) ?_
    rintro _ _ ⟨cf', sf', F', W', rfl, hr⟩
    rcases hr with ⟨hno, rfl, e1, e2, e3⟩ | ⟨hyes, h0, hl, rfl, e1, e2, e3⟩ | ⟨hyes, h0, hl, rfl, e1, e2, e3⟩ | ⟨hyes, hl, rfl⟩
    · rw [if_neg hno] at hC0
      refine g_istore_n (i := 2) (pc1 := 37) dX8_seek_36 rfl rfl (Nat.le_of_ble_eq_true rfl) ?_
      refine g_iload_n (i := 2) (pc1 := 38) dX8_seek_37 rfl rfl rfl ?_
      refine g_iconst (v := 1) (pc1 := 39) dX8_seek_38 rfl (by decide) ?_
      refine g_icmp_ne (pc1 := 42) (tgt := 50) dX8_seek_39 rfl (by decide) (fun _ => ?_) (fun hbr9 => absurd hbr9 (by decide))
      refine g_iload_n (i := 2) (pc1 := 51) dX8_seek_50 rfl rfl rfl ?_
      refine g_istore_n (i := 2) (pc1 := 52) dX8_seek_51 rfl rfl (Nat.le_of_ble_eq_true rfl) ?_
      refine g_goto (tgt := 20) dX8_seek_52 (by decide) ?_
      exact hC0.1 rfl cf' sf' F' W' e1 e2 e3
    · rw [if_pos hyes, if_pos hl, if_pos h0] at hC0
      refine g_istore_n (i := 2) (pc1 := 37) dX8_seek_36 rfl rfl (Nat.le_of_ble_eq_true rfl) ?_
      refine g_iload_n (i := 2) (pc1 := 38) dX8_seek_37 rfl rfl rfl ?_
      refine g_iconst (v := 1) (pc1 := 39) dX8_seek_38 rfl (by decide) ?_
      refine g_icmp_ne (pc1 := 42) (tgt := 50) dX8_seek_39 rfl (by decide) (fun _ => ?_) (fun hbr9 => absurd hbr9 (by decide))
      refine g_iload_n (i := 2) (pc1 := 51) dX8_seek_50 rfl rfl rfl ?_
      refine g_istore_n (i := 2) (pc1 := 52) dX8_seek_51 rfl rfl (Nat.le_of_ble_eq_true rfl) ?_
      refine g_goto (tgt := 20) dX8_seek_52 (by decide) ?_
      exact ih (c + 1) _ (by omega) hC0 cf' sf' F' W' (fun w hw _ => e1 w hw) e2 e3
    · rw [if_pos hyes, if_pos hl, if_neg (by rw [h0]; decide)] at hC0
      have hok' := hok.set hv hv0 hyes.2 (show c < 30 by omega)
      have hb := hbr c
      refine g_istore_n (i := 2) (pc1 := 37) dX8_seek_36 rfl rfl (Nat.le_of_ble_eq_true rfl) ?_
      refine g_iload_n (i := 2) (pc1 := 38) dX8_seek_37 rfl rfl rfl ?_
      refine g_iconst (v := 1) (pc1 := 39) dX8_seek_38 rfl (by decide) ?_
      refine g_icmp_ne (pc1 := 42) (tgt := 50) dX8_seek_39 rfl (by decide) (fun hbr9 => absurd hbr9 (fun q => q rfl)) (fun _ => ?_)
      refine g_aload_n (i := 0) (pc1 := 43) dX8_seek_42 rfl rfl rfl ?_
      refine g_iload_n (i := 1) (pc1 := 44) dX8_seek_43 rfl rfl rfl ?_
      have hl2 : (st ++ [(v, c + 1, u)]).length + cnt (brP n (cset col v c)) n ≤ n := by rw [List.length_append]; simp; omega
      refine g_V1 (M := mX8_come) (pc1 := 47) dX8_seek_44 rfl lkX8_134 tmX8_come rfl (r_come x n nr ot L T V P hg hk hk30 cf' sf' F' W' e1 hok' e3 e2 hl2) (Nat.le_of_ble_eq_true rfl) rfl (Nat.le_of_ble_eq_true rfl) (Nat.le_of_ble_eq_true rfl) ?_
      intro r2 g2 hcm2
      have hr2 : ∃ y, r2 = some (.int y) := by
        obtain ⟨_, _, _, _, _, _, h | ⟨_, _, _, _, _, h, _⟩ | ⟨_, _, _, _, h, _⟩ | ⟨_, _, _, h⟩⟩ := hcm2
        · exact ⟨_, h.2.1⟩
        · exact ⟨_, h⟩
        · exact ⟨_, h⟩
        · exact ⟨_, h⟩
      obtain ⟨y, rfl⟩ := hr2
      show aGo _ 47 _ [.int y] _ _ _
      refine g_goto (tgt := 51) dX8_seek_47 (by decide) ?_
      refine g_istore_n (i := 2) (pc1 := 52) dX8_seek_51 rfl rfl (Nat.le_of_ble_eq_true rfl) ?_
      refine g_goto (tgt := 20) dX8_seek_52 (by decide) ?_
      refine aGo.eq (hV (cset col v c) (up1 u c) (lg ++ [(3, nI c)]) (st ++ [(v, c + 1, u)]) hok' (by omega) hl2 ⟨fun hz => ?_, fun hz => ?_⟩ y g2 hcm2) rfl rfl rfl
      · rw [if_pos hz] at hC0
        intro cf3 sf3 F3 W3 k1 k2 k3
        refine ih (c + 1) _ (by omega) hC0 cf3 sf3 F3 W3 (fun w hw hwv => ?_) k2 k3
        rw [k1 w hw]; simp [cset, hwv]
      · rw [if_neg hz] at hC0
        exact hC0.2 hz
    · rw [if_pos hyes, if_neg hl] at hC0
      have hR := hC0.2 (show (2 : Nat) ≠ 0 by decide)
      refine g_istore_n (i := 2) (pc1 := 37) dX8_seek_36 rfl rfl (Nat.le_of_ble_eq_true rfl) ?_
      refine g_iload_n (i := 2) (pc1 := 38) dX8_seek_37 rfl rfl rfl ?_
      refine g_iconst (v := 1) (pc1 := 39) dX8_seek_38 rfl (by decide) ?_
      refine g_icmp_ne (pc1 := 42) (tgt := 50) dX8_seek_39 rfl (by decide) (fun _ => ?_) (fun hbr9 => absurd hbr9 (by decide))
      refine g_iload_n (i := 2) (pc1 := 51) dX8_seek_50 rfl rfl rfl ?_
      refine g_istore_n (i := 2) (pc1 := 52) dX8_seek_51 rfl rfl (Nat.le_of_ble_eq_true rfl) ?_
      refine g_goto (tgt := 20) dX8_seek_52 (by decide) ?_
      refine sk_exit x n nr ot L T V P (by decide) ⟨cf', sf', F', W', rfl, ?_, fun q => ?_, fun q => ?_⟩
      · rw [← hR]; rfl
      · rw [← hR] at q; exact absurd rfl q
      · rw [← hR] at q; cases q
theorem sk_visit {A : Nat → Nat → Bool} (hg : rG (nI n, nr, ot) n A) (hk : Gok n A) {k : Nat} (hk30 : k ≤ 30) {R0 : tR} : ∀ d, VsP x n nr ot L T V P A k R0 d := by
  intro d
  induction d with
  | zero => intro col u lg st hok hd; exact absurd hd (Nat.not_lt_zero _)
  | succ d hV =>
    intro col u lg st hok hd hst hC0 y g hcm
    have hRv : vis n A k (d + 1) col u lg = (match chS n A col with
      | none => (1, lg, col, u)
      | some v => match tgt n A col k with
        | some T => if lg.length < 3000 then (0, lg ++ [(4, bS T)], col, u) else (2, lg, col, u)
        | none => braS n A k d col u v lg) := by
      unfold vis
      cases h1 : chS n A col with
      | none => rfl
      | some v =>
        cases h2 : tgt n A col k with
        | none => rfl
        | some T => rfl
    obtain ⟨cf, sf, F, W, rfl, hc, h⟩ := hcm
    rcases h with ⟨hch, hy, e1⟩ | ⟨v, T', hch, hT, hl, hy, e1, e2⟩ | ⟨v, hch, hT, hl, hy, e1, e2⟩ | ⟨v, hch, hl, hy⟩
    · cases hy
      rw [hch] at hRv
      simp only [] at hRv
      rw [hRv] at hC0
      have hR := hC0.2 (show (1 : Nat) ≠ 0 by decide)
      refine sk_exit x n nr ot L T V P (by decide) ⟨cf, sf, F, W, rfl, ?_, fun _ => ?_, fun _ => ?_⟩
      · rw [← hR]; rfl
      · rw [← hR]; exact e1
      · rw [← hR]; exact hc
    · cases hy
      rw [hch, hT] at hRv
      simp only [] at hRv
      rw [if_pos hl] at hRv
      rw [hRv] at hC0
      exact hC0.1 rfl cf sf F W hc e1 e2
    · cases hy
      rw [hch, hT] at hRv
      simp only [] at hRv
      unfold braS at hRv
      rw [if_pos hl] at hRv
      rw [hRv] at hC0
      obtain ⟨hv, hv0⟩ := chS_some hch
      exact sk_branch x n nr ot L T V P hg hk hk30 hV col u v st hok hd hst hv hv0 31 0 _ rfl hC0 cf sf F W (fun w hw _ => hc w hw) e1 e2
    · cases hy
      have hR2 : vis n A k (d + 1) col u lg = (2, lg, col, u) := by
        rw [hRv, hch]
        cases hT : tgt n A col k with
        | none => simp only []; unfold braS; rw [if_neg hl]
        | some T' => simp only []; rw [if_neg hl]
      rw [hR2] at hC0
      have hR := hC0.2 (show (2 : Nat) ≠ 0 by decide)
      refine sk_exit x n nr ot L T V P (by decide) ⟨cf, sf, F, W, rfl, ?_, fun q => ?_, fun q => ?_⟩
      · rw [← hR]; rfl
      · rw [← hR] at q; exact absurd rfl q
      · rw [← hR] at q; cases q
theorem r_seek {A : Nat → Nat → Bool} (hg : rG (nI n, nr, ot) n A) (hk : Gok n A) {k : Nat} (hk30 : k ≤ 30) (cf sf : fI) (F : tF) (W : tW) : aRet 6 0 0 mX8_seek [.ref 24, .int (nI k)] (rp x (nI n, nr, ot) (cf, sf) F W L T V P) (skQ x n nr ot L T V P (srR n A k)) := by
  have hn := hk.1
  have hb := cnt_le (brP n (fun _ => none)) n
  refine aRet.of (by decide) (Nat.le_of_ble_eq_true rfl) (a_ok2 rfl) ?_
  refine g_aload_n (i := 0) (pc1 := 1) dX8_seek_0 rfl rfl rfl ?_
  refine g_V0 (M := mX8_clearColours) (pc1 := 4) dX8_seek_1 rfl lkX8_109 tmX8_clearColours rfl (r_clearColours x cf sf F W L T V P (nI n, nr, ot)) (Nat.le_of_ble_eq_true rfl) rfl (Nat.le_of_ble_eq_true rfl) (Nat.le_of_ble_eq_true rfl) ?_
  rintro _ _ ⟨rfl, rfl⟩
  show aGo _ 4 _ [] _ _ _
  have hc : rK (fil 30 (-1) cf) (fun _ => none) := fun v hv => by simp [fil, hv, enO]
  refine g_aload_n (i := 0) (pc1 := 5) dX8_seek_4 rfl rfl rfl ?_
  refine g_iconst (v := 0) (pc1 := 6) dX8_seek_5 rfl (by decide) ?_
  refine g_puti (pc1 := 9) dX8_seek_6 rfl flX8_118 rfl (Nat.le_of_ble_eq_true rfl) rfl rfl ?_
  refine g_aload_n (i := 0) (pc1 := 10) dX8_seek_9 rfl rfl rfl ?_
  refine g_iconst (v := 0) (pc1 := 11) dX8_seek_10 rfl (by decide) ?_
  refine g_puti (pc1 := 14) dX8_seek_11 rfl flX8_121 rfl (Nat.le_of_ble_eq_true rfl) rfl rfl ?_
  refine g_aload_n (i := 0) (pc1 := 15) dX8_seek_14 rfl rfl rfl ?_
  refine g_iload_n (i := 1) (pc1 := 16) dX8_seek_15 rfl rfl rfl ?_
  refine aGo.eq (h' := rp x (nI n, nr, ot) (fil 30 (-1) cf, sf) (F.1, F.2.1, F.2.2.1, 0) (W.1, 0) L T V P) ?_ rfl rfl rfl
  have hW0 : rL (W.1, 0) [] := ⟨rfl, by decide, fun i a b h => by simp at h⟩
  have hF0 : fC (F.1, F.2.1, F.2.2.1, 0) [] := ⟨rfl, by decide, fun i a b c h => by simp at h⟩
  have hst : ([] : tSk).length + cnt (brP n (fun _ => none)) n ≤ n := by simp; omega
  refine g_V1 (M := mX8_come) (pc1 := 19) dX8_seek_16 rfl lkX8_134 tmX8_come rfl (r_come x n nr ot L T V P hg hk hk30 (fil 30 (-1) cf) sf (F.1, F.2.1, F.2.2.1, 0) (W.1, 0) hc (Cok.none n) hW0 hF0 hst) (Nat.le_of_ble_eq_true rfl) rfl (Nat.le_of_ble_eq_true rfl) (Nat.le_of_ble_eq_true rfl) ?_
  intro r2 g2 hcm2
  have hr2 : ∃ y, r2 = some (.int y) := by
    obtain ⟨_, _, _, _, _, _, h | ⟨_, _, _, _, _, h, _⟩ | ⟨_, _, _, _, h, _⟩ | ⟨_, _, _, h⟩⟩ := hcm2
    · exact ⟨_, h.2.1⟩
    · exact ⟨_, h⟩
    · exact ⟨_, h⟩
    · exact ⟨_, h⟩
  obtain ⟨y, rfl⟩ := hr2
  show aGo _ 19 _ [.int y] _ _ _
  refine g_istore_n (i := 2) (pc1 := 20) dX8_seek_19 rfl rfl (Nat.le_of_ble_eq_true rfl) ?_
  refine aGo.eq (sk_visit x n nr ot L T V P hg hk hk30 (R0 := srR n A k) 31 (fun _ => none) 0 [] [] (Cok.none n) (by omega) hst ⟨fun hz => ?_, fun _ => rfl⟩ y g2 hcm2) rfl rfl rfl
  intro cf3 sf3 F3 W3 k1 k2 k3
  have hz' : (srR n A k).1 = 0 := hz
  refine g_iload_n (i := 2) (pc1 := 21) dX8_seek_20 rfl rfl rfl ?_
  refine g_if_ne (pc1 := 24) (tgt := 55) dX8_seek_21 rfl (by decide) (fun hbr9 => absurd hbr9 (fun q => q rfl)) (fun _ => ?_)
  refine g_aload_n (i := 0) (pc1 := 25) dX8_seek_24 rfl rfl rfl ?_
  refine g_get (pc1 := 28) dX8_seek_25 rfl flX8_121 rfl rfl ?_
  rw [k2.1]
  refine g_if_le (pc1 := 31) (tgt := 55) dX8_seek_28 rfl (by decide) (fun _ => ?_) (fun hbr9 => absurd (by decide) hbr9)
  refine g_iload_n (i := 2) (pc1 := 56) dX8_seek_55 rfl rfl rfl ?_
  refine g_iret dX8_seek_56 rfl rfl (Nat.le_of_ble_eq_true rfl) (Nat.le_of_ble_eq_true rfl) ?_
  refine ⟨cf3, sf3, F3, W3, rfl, ?_, fun _ => k3, fun q => by rw [hz'] at q; cases q⟩
  rw [hz']; rfl
end
