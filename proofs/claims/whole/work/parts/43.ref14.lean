/-! ===== the reference: going over a log with a stack of its own ===== -/
def clr (a : tCol) (v : Nat) : tCol := fun w => if w = v then none else a w
/-- the frames that have ended are left; the top comes first -/
def lvR (k : Nat) : tSk → tCol → tSk × tCol
  | [], a => ([], a)
  | (v, c, u) :: r, a => if k ≤ c ∨ u < c then lvR k r (clr a v) else ((v, c, u) :: r, clr a v)
def stO (n : Nat) (st : tSk) : Prop := ∀ e ∈ st, e.1 < n ∧ e.2.1 ≤ 31 ∧ e.2.2 ≤ 30
theorem rK_clr {cf : fI} {a : tCol} (h : rK cf a) (v : Nat) : rK (upd cf v (-1)) (clr a v) := by
  intro w hw
  by_cases e : w = v
  · subst e; rw [pk_us]; simp [clr, enO]
  · rw [pk_un e, h w hw]; simp [clr, e]
theorem clr_set {col : tCol} {v : Nat} (h : col v = none) (c : Nat) : clr (cset col v c) v = col := by
  funext w
  by_cases e : w = v
  · subst e; simp [clr, h]
  · simp [clr, cset, e]
theorem clr_id {col : tCol} {v : Nat} (h : col v = none) : clr col v = col := by
  funext w
  by_cases e : w = v
  · subst e; simp [clr, h]
  · simp [clr, e]
section
variable (x : Nat → aC) (n : Nat) (nr ot : fI) (W L T : tW) (V : tM) (P : fI)
set_option maxHeartbeats 1000000 in
theorem r_leave (hn : n ≤ 30) (sf : fI) {k : Nat} (hk30 : k ≤ 30) (st : tSk) (cf : fI) (F : tF) (a : tCol) (hc : rK cf a) (hF : fC F st.reverse) (hst : stO n st) : aRet 0 0 0 mX8_leave [.ref 24, .int (nI k)] (rp x (nI n, nr, ot) (cf, sf) F W L T V P) (fun w g => w = none ∧ ∃ (cf' : fI) (F' : tF), rK cf' (lvR k st a).2 ∧ fC F' (lvR k st a).1.reverse ∧ g = rp x (nI n, nr, ot) (cf', sf) F' W L T V P) := by
  have key : ∀ (st : tSk) (cf : fI) (F : tF) (a : tCol) (R : tSk × tCol), rK cf a → fC F st.reverse → stO n st → R = lvR k st a → aGo (0, 0, 0, mX8_leave, none, fun w g => w = none ∧ ∃ (cf' : fI) (F' : tF), rK cf' R.2 ∧ fC F' R.1.reverse ∧ g = rp x (nI n, nr, ot) (cf', sf) F' W L T V P) 13 [.ref 24, .int (nI k), .int (bI (!st.isEmpty)), .null] [] (rp x (nI n, nr, ot) (cf, sf) F W L T V P) 0 0 := by
    intro st
    induction st with
    | nil =>
      intro cf F a R hc hF hst hR
      refine g_iload_n (i := 2) (pc1 := 14) dX8_leave_13 rfl rfl rfl ?_
      refine g_if_eq (pc1 := 17) (tgt := 103) dX8_leave_14 rfl (by decide) (fun _ => ?_) (fun hbr9 => absurd rfl hbr9)
      refine g_vret dX8_leave_103 rfl (Nat.le_of_ble_eq_true rfl) (Nat.le_of_ble_eq_true rfl) ?_
      exact ⟨rfl, cf, F, by rw [hR]; exact hc, by rw [hR]; exact hF, rfl⟩
    | cons e st ih =>
      obtain ⟨v, c, u⟩ := e
      intro cf F a R hc hF hst hR
      obtain ⟨o1, o2, o3⟩ := hst (v, c, u) (List.mem_cons_self ..)
      dsimp only at o1 o2 o3
      have hst' : stO n st := fun e he => hst e (List.mem_cons_of_mem _ he)
      rw [List.reverse_cons] at hF
      have ht := hF.top
      rw [List.length_reverse] at ht
      obtain ⟨f, g, h, d⟩ := F
      obtain ⟨t1, t2, t3, t4, t5⟩ := ht
      dsimp only at t1 t2 t3 t4
      subst t4
      have hpr : nI (st.length + 1) - 1 = nI st.length := nI_pred _
      have hc' := rK_clr hc v
      have hF' := hF.pop
      rw [List.length_reverse] at hF'
      unfold lvR at hR
      refine g_iload_n (i := 2) (pc1 := 14) dX8_leave_13 rfl rfl rfl ?_
      refine g_if_eq (pc1 := 17) (tgt := 103) dX8_leave_14 rfl (by decide) (fun hbr9 => absurd hbr9 (show ¬ (1 : Int32) = 0 by decide)) (fun _ => ?_)
      refine g_aload_n (i := 0) (pc1 := 18) dX8_leave_17 rfl rfl rfl ?_
      refine g_get (pc1 := 21) dX8_leave_18 rfl flX8_121 rfl rfl ?_
      refine g_iconst (v := 1) (pc1 := 22) dX8_leave_21 rfl (by decide) ?_
      refine g_isub (pc1 := 23) dX8_leave_22 rfl ?_
      rw [hpr]
      refine g_istore_n (i := 3) (pc1 := 24) dX8_leave_23 rfl rfl (Nat.le_of_ble_eq_true rfl) ?_
      refine g_aload_n (i := 0) (pc1 := 25) dX8_leave_24 rfl rfl rfl ?_
      refine g_get (pc1 := 28) dX8_leave_25 rfl flX8_16 rfl rfl ?_
      refine g_aload_n (i := 0) (pc1 := 29) dX8_leave_28 rfl rfl rfl ?_
      refine g_get (pc1 := 32) dX8_leave_29 rfl flX8_26 rfl rfl ?_
      refine g_iload_n (i := 3) (pc1 := 33) dX8_leave_32 rfl rfl rfl ?_
      refine g_ialdJ (pc1 := 34) dX8_leave_33 rfl rfl rfl (by omega) (by decide) ?_
      dsimp only
      rw [t1]
      refine g_iconst (v := (-1)) (pc1 := 35) dX8_leave_34 rfl (by decide) ?_
      refine g_iastJ (pc1 := 36) dX8_leave_35 rfl rfl rfl (by omega) (by decide) ?_
      refine g_aload_n (i := 0) (pc1 := 37) dX8_leave_36 rfl rfl rfl ?_
      refine g_get (pc1 := 40) dX8_leave_37 rfl flX8_29 rfl rfl ?_
      refine g_iload_n (i := 3) (pc1 := 41) dX8_leave_40 rfl rfl rfl ?_
      refine g_ialdJ (pc1 := 42) dX8_leave_41 rfl rfl rfl (by omega) (by decide) ?_
      refine g_iload_n (i := 1) (pc1 := 43) dX8_leave_42 rfl rfl rfl ?_
      dsimp only
      rw [t2]
      refine aGo.eq (h' := rp x (nI n, nr, ot) (upd cf v (-1), sf) (f, g, h, nI (st.length + 1)) W L T V P) ?_ rfl rfl rfl
      have popd : (k ≤ c ∨ u < c) → aGo (0, 0, 0, mX8_leave, none, fun w g => w = none ∧ ∃ (cf' : fI) (F' : tF), rK cf' R.2 ∧ fC F' R.1.reverse ∧ g = rp x (nI n, nr, ot) (cf', sf) F' W L T V P) 61 [.ref 24, .int (nI k), .int (bI (!((v, c, u) :: st).isEmpty)), .int (nI st.length)] [] (rp x (nI n, nr, ot) (upd cf v (-1), sf) (f, g, h, nI (st.length + 1)) W L T V P) 0 0 := by
        intro hfin
        rw [if_pos hfin] at hR
        refine g_iconst (v := 1) (pc1 := 62) dX8_leave_61 rfl (by decide) ?_
        refine g_goto (tgt := 66) dX8_leave_62 (by decide) ?_
        refine g_istore_n (i := 2) (pc1 := 67) dX8_leave_66 rfl rfl (Nat.le_of_ble_eq_true rfl) ?_
        refine g_aload_n (i := 0) (pc1 := 68) dX8_leave_67 rfl rfl rfl ?_
        refine g_iload_n (i := 2) (pc1 := 69) dX8_leave_68 rfl rfl rfl ?_
        refine g_if_eq (pc1 := 72) (tgt := 76) dX8_leave_69 rfl (by decide) (fun hbr9 => absurd hbr9 (by decide)) (fun _ => ?_)
        refine g_iload_n (i := 3) (pc1 := 73) dX8_leave_72 rfl rfl rfl ?_
        refine g_goto (tgt := 80) dX8_leave_73 (by decide) ?_
        refine g_puti (pc1 := 83) dX8_leave_80 rfl flX8_121 rfl (Nat.le_of_ble_eq_true rfl) rfl rfl ?_
        refine g_iload_n (i := 2) (pc1 := 84) dX8_leave_83 rfl rfl rfl ?_
        refine aGo.eq (h' := rp x (nI n, nr, ot) (upd cf v (-1), sf) (f, g, h, nI st.length) W L T V P) ?_ rfl rfl rfl
        refine g_if_eq (pc1 := 87) (tgt := 98) dX8_leave_84 rfl (by decide) (fun hbr9 => absurd hbr9 (by decide)) (fun _ => ?_)
        refine g_aload_n (i := 0) (pc1 := 88) dX8_leave_87 rfl rfl rfl ?_
        refine g_get (pc1 := 91) dX8_leave_88 rfl flX8_121 rfl rfl ?_
        have nx := ih (upd cf v (-1)) (f, g, h, nI st.length) (clr a v) R hc' hF' hst' hR
        cases hs : st with
        | nil =>
          refine g_if_le (pc1 := 94) (tgt := 98) dX8_leave_91 rfl (by decide) (fun _ => ?_) (fun hbr9 => absurd (show (0 : Int32) ≤ 0 by decide) hbr9)
          refine g_iconst (v := 0) (pc1 := 99) dX8_leave_98 rfl (by decide) ?_
          refine g_istore_n (i := 2) (pc1 := 100) dX8_leave_99 rfl rfl (Nat.le_of_ble_eq_true rfl) ?_
          refine g_goto (tgt := 13) dX8_leave_100 (by decide) ?_
          rw [hs] at nx
          refine aGo.forget 3 ?_
          exact aGo.eq nx rfl rfl rfl
        | cons e r =>
          refine g_if_le (pc1 := 94) (tgt := 98) dX8_leave_91 rfl (by decide) (fun hbr9 => absurd hbr9 (nI_nle (by simp) (by rw [hs] at t5; exact Nat.lt_trans t5 (by decide)))) (fun _ => ?_)
          refine g_iconst (v := 1) (pc1 := 95) dX8_leave_94 rfl (by decide) ?_
          refine g_goto (tgt := 99) dX8_leave_95 (by decide) ?_
          refine g_istore_n (i := 2) (pc1 := 100) dX8_leave_99 rfl rfl (Nat.le_of_ble_eq_true rfl) ?_
          refine g_goto (tgt := 13) dX8_leave_100 (by decide) ?_
          rw [hs] at nx
          refine aGo.forget 3 ?_
          exact aGo.eq nx rfl rfl rfl
      refine g_icmp_ge (pc1 := 46) (tgt := 61) dX8_leave_43 rfl (by decide) (fun c1 => ?_) (fun c1 => ?_)
      · exact popd (Or.inl ((nI_leI (a := k) (b := c) (by omega) (by omega)).mp c1))
      · have d1 : ¬ k ≤ c := fun q => c1 ((nI_leI (a := k) (b := c) (by omega) (by omega)).mpr q)
        refine g_aload_n (i := 0) (pc1 := 47) dX8_leave_46 rfl rfl rfl ?_
        refine g_get (pc1 := 50) dX8_leave_47 rfl flX8_29 rfl rfl ?_
        refine g_iload_n (i := 3) (pc1 := 51) dX8_leave_50 rfl rfl rfl ?_
        refine g_ialdJ (pc1 := 52) dX8_leave_51 rfl rfl rfl (by omega) (by decide) ?_
        refine g_aload_n (i := 0) (pc1 := 53) dX8_leave_52 rfl rfl rfl ?_
        refine g_get (pc1 := 56) dX8_leave_53 rfl flX8_32 rfl rfl ?_
        refine g_iload_n (i := 3) (pc1 := 57) dX8_leave_56 rfl rfl rfl ?_
        refine g_ialdJ (pc1 := 58) dX8_leave_57 rfl rfl rfl (by omega) (by decide) ?_
        dsimp only
        rw [t2, t3]
        refine g_icmp_le (pc1 := 61) (tgt := 65) dX8_leave_58 rfl (by decide) (fun c2 => ?_) (fun c2 => ?_)
        · have d2 : ¬ u < c := by
            have := (nI_leI (a := c) (b := u) (by omega) (by omega)).mp c2
            omega
          rw [if_neg (by omega)] at hR
          refine g_iconst (v := 0) (pc1 := 66) dX8_leave_65 rfl (by decide) ?_
          refine g_istore_n (i := 2) (pc1 := 67) dX8_leave_66 rfl rfl (Nat.le_of_ble_eq_true rfl) ?_
          refine g_aload_n (i := 0) (pc1 := 68) dX8_leave_67 rfl rfl rfl ?_
          refine g_iload_n (i := 2) (pc1 := 69) dX8_leave_68 rfl rfl rfl ?_
          refine g_if_eq (pc1 := 72) (tgt := 76) dX8_leave_69 rfl (by decide) (fun _ => ?_) (fun hbr9 => absurd rfl hbr9)
          refine g_aload_n (i := 0) (pc1 := 77) dX8_leave_76 rfl rfl rfl ?_
          refine g_get (pc1 := 80) dX8_leave_77 rfl flX8_121 rfl rfl ?_
          refine g_puti (pc1 := 83) dX8_leave_80 rfl flX8_121 rfl (Nat.le_of_ble_eq_true rfl) rfl rfl ?_
          refine g_iload_n (i := 2) (pc1 := 84) dX8_leave_83 rfl rfl rfl ?_
          refine aGo.eq (h' := rp x (nI n, nr, ot) (upd cf v (-1), sf) (f, g, h, nI (st.length + 1)) W L T V P) ?_ rfl rfl rfl
          refine g_if_eq (pc1 := 87) (tgt := 98) dX8_leave_84 rfl (by decide) (fun _ => ?_) (fun hbr9 => absurd rfl hbr9)
          refine g_iconst (v := 0) (pc1 := 99) dX8_leave_98 rfl (by decide) ?_
          refine g_istore_n (i := 2) (pc1 := 100) dX8_leave_99 rfl rfl (Nat.le_of_ble_eq_true rfl) ?_
          refine g_goto (tgt := 13) dX8_leave_100 (by decide) ?_
          refine g_iload_n (i := 2) (pc1 := 14) dX8_leave_13 rfl rfl rfl ?_
          refine g_if_eq (pc1 := 17) (tgt := 103) dX8_leave_14 rfl (by decide) (fun _ => ?_) (fun hbr9 => absurd rfl hbr9)
          refine g_vret dX8_leave_103 rfl (Nat.le_of_ble_eq_true rfl) (Nat.le_of_ble_eq_true rfl) ?_
          exact ⟨rfl, upd cf v (-1), (f, g, h, nI (st.length + 1)), by rw [hR]; exact hc', by rw [hR]; show fC _ ((v, c, u) :: st).reverse; rw [List.reverse_cons]; exact hF, rfl⟩
        · refine popd (Or.inr ?_)
          have : ¬ c ≤ u := fun q => c2 ((nI_leI (a := c) (b := u) (by omega) (by omega)).mpr q)
          omega
  have hd : F.2.2.2 = nI st.length := by have := hF.1; rw [List.length_reverse] at this; exact this
  have hl : st.length ≤ 30 := by have := hF.2.1; rw [List.length_reverse] at this; exact this
  refine aRet.of (by decide) (Nat.le_of_ble_eq_true rfl) (a_ok2 rfl) ?_
  refine g_aload_n (i := 0) (pc1 := 1) dX8_leave_0 rfl rfl rfl ?_
  refine g_get (pc1 := 4) dX8_leave_1 rfl flX8_121 rfl rfl ?_
  rw [hd]
  have fin := key st cf F a _ hc hF hst rfl
  cases hs : st with
  | nil =>
    rw [hs] at fin
    refine g_if_le (pc1 := 7) (tgt := 11) dX8_leave_4 rfl (by decide) (fun _ => ?_) (fun hbr9 => absurd (by decide) hbr9)
    refine g_iconst (v := 0) (pc1 := 12) dX8_leave_11 rfl (by decide) ?_
    refine g_istore_n (i := 2) (pc1 := 13) dX8_leave_12 rfl rfl (Nat.le_of_ble_eq_true rfl) ?_
    exact fin
  | cons e r =>
    rw [hs] at fin
    refine g_if_le (pc1 := 7) (tgt := 11) dX8_leave_4 rfl (by decide) (fun hbr9 => absurd hbr9 (nI_nle (by simp) (by rw [hs] at hl; exact Nat.lt_of_le_of_lt hl (by decide)))) (fun _ => ?_)
    refine g_iconst (v := 1) (pc1 := 8) dX8_leave_7 rfl (by decide) ?_
    refine g_goto (tgt := 12) dX8_leave_8 (by decide) ?_
    refine g_istore_n (i := 2) (pc1 := 13) dX8_leave_12 rfl rfl (Nat.le_of_ble_eq_true rfl) ?_
    exact fin
set_option maxHeartbeats 1000000 in
theorem r_stands {A : Nat → Nat → Bool} (hg : rG (nI n, nr, ot) n A) (hk : Gok n A) (cf sf : fI) (F : tF) {col : tCol} {u : Nat} (hc : rK cf col) (hok : Cok n col u) {lg : tLog} (hT : rL T lg) {t : Nat} {o y : Int32} (ht : lg[t]? = some (o, y)) {st : tSk} {v c : Nat} (hv : v < n) (hc30 : c < 30) (hF : fC F (st ++ [(v, c, u)])) : aRet 2 0 0 mX8_stands [.ref 24, .int (nI t)] (rp x (nI n, nr, ot) (cf, sf) F W L T V P) (fun w g => ∃ F' : tF, fC F' (st ++ [(v, c + 1, u)]) ∧
    ((hC n A col v c = true ∧ (decide (o = 2) && blk n A col v c y) = true ∧ w = some (.int 0) ∧ g = rp x (nI n, nr, ot) (cf, sf) F' W L T V P) ∨
    (hC n A col v c = true ∧ (decide (o = 2) && blk n A col v c y) = false ∧ w = some (.int (-1)) ∧ g = rp x (nI n, nr, ot) (cf, sf) F' W L T V P) ∨
    (hC n A col v c = false ∧ (decide (o = 3) && decide (y = nI c)) = true ∧ w = some (.int 1) ∧ g = rp x (nI n, nr, ot) (upd cf v (nI c), sf) F' W L T V P) ∨
    (hC n A col v c = false ∧ (decide (o = 3) && decide (y = nI c)) = false ∧ w = some (.int (-1)) ∧ g = rp x (nI n, nr, ot) (cf, sf) F' W L T V P))) := by
  have hn := hk.1
  have hl := hT.2.1
  have htl := (List.getElem?_eq_some_iff.mp ht).1
  have hty := hT.2.2 t o y ht
  obtain ⟨t1, t2, t3, t4, t5⟩ := hF.top
  obtain ⟨f, g, h, d⟩ := F
  dsimp only at t1 t2 t3 t4
  subst t4
  have hnx := hF.next
  have hpr : nI (st.length + 1) - 1 = nI st.length := nI_pred _
  refine aRet.of (by decide) (Nat.le_of_ble_eq_true rfl) (a_ok2 rfl) ?_
  refine g_aload_n (i := 0) (pc1 := 1) dX8_stands_0 rfl rfl rfl ?_
  refine g_get (pc1 := 4) dX8_stands_1 rfl flX8_121 rfl rfl ?_
  refine g_iconst (v := 1) (pc1 := 5) dX8_stands_4 rfl (by decide) ?_
  refine g_isub (pc1 := 6) dX8_stands_5 rfl ?_
  rw [hpr]
  refine g_istore_n (i := 2) (pc1 := 7) dX8_stands_6 rfl rfl (Nat.le_of_ble_eq_true rfl) ?_
  refine g_aload_n (i := 0) (pc1 := 8) dX8_stands_7 rfl rfl rfl ?_
  refine g_get (pc1 := 11) dX8_stands_8 rfl flX8_26 rfl rfl ?_
  refine g_iload_n (i := 2) (pc1 := 12) dX8_stands_11 rfl rfl rfl ?_
  refine g_ialdJ (pc1 := 13) dX8_stands_12 rfl rfl rfl (by omega) (by decide) ?_
  dsimp only
  rw [t1]
  refine g_istore_n (i := 3) (pc1 := 14) dX8_stands_13 rfl rfl (Nat.le_of_ble_eq_true rfl) ?_
  refine g_aload_n (i := 0) (pc1 := 15) dX8_stands_14 rfl rfl rfl ?_
  refine g_get (pc1 := 18) dX8_stands_15 rfl flX8_29 rfl rfl ?_
  refine g_iload_n (i := 2) (pc1 := 19) dX8_stands_18 rfl rfl rfl ?_
  refine g_ialdJ (pc1 := 20) dX8_stands_19 rfl rfl rfl (by omega) (by decide) ?_
  dsimp only
  rw [t2]
  refine g_istore (pc1 := 22) dX8_stands_20 rfl (Nat.le_of_ble_eq_true rfl) ?_
  refine g_aload_n (i := 0) (pc1 := 23) dX8_stands_22 rfl rfl rfl ?_
  refine g_get (pc1 := 26) dX8_stands_23 rfl flX8_41 rfl rfl ?_
  refine g_iconst (v := 2) (pc1 := 27) dX8_stands_26 rfl (by decide) ?_
  refine g_iload_n (i := 1) (pc1 := 28) dX8_stands_27 rfl rfl rfl ?_
  refine g_imul (pc1 := 29) dX8_stands_28 rfl ?_
  refine g_iconst (v := 1) (pc1 := 30) dX8_stands_29 rfl (by decide) ?_
  refine g_iadd (pc1 := 31) dX8_stands_30 rfl ?_
  refine g_ialdJ (pc1 := 32) dX8_stands_31 rfl rfl (ix21 t) (by omega) (by decide) ?_
  rw [hty.2]
  refine g_istore (pc1 := 34) dX8_stands_32 rfl (Nat.le_of_ble_eq_true rfl) ?_
  refine g_aload_n (i := 0) (pc1 := 35) dX8_stands_34 rfl rfl rfl ?_
  refine g_get (pc1 := 38) dX8_stands_35 rfl flX8_29 rfl rfl ?_
  refine g_iload_n (i := 2) (pc1 := 39) dX8_stands_38 rfl rfl rfl ?_
  refine g_dup2 (pc1 := 40) dX8_stands_39 rfl rfl rfl ?_
  refine g_ialdJ (pc1 := 41) dX8_stands_40 rfl rfl rfl (by omega) (by decide) ?_
  dsimp only
  rw [t2]
  refine g_iconst (v := 1) (pc1 := 42) dX8_stands_41 rfl (by decide) ?_
  refine g_iadd (pc1 := 43) dX8_stands_42 rfl ?_
  rw [nI_1]
  refine g_iastJ (pc1 := 44) dX8_stands_43 rfl rfl rfl (by omega) (by decide) ?_
  refine g_aload_n (i := 0) (pc1 := 45) dX8_stands_44 rfl rfl rfl ?_
  refine g_iload_n (i := 3) (pc1 := 46) dX8_stands_45 rfl rfl rfl ?_
  refine g_iload (pc1 := 48) dX8_stands_46 rfl rfl ?_
  refine aGo.eq (h' := rp x (nI n, nr, ot) (cf, sf) (f, upd g st.length (nI (c + 1)), h, nI (st.length + 1)) W L T V P) ?_ rfl rfl rfl
  refine g_V2 (M := mX8_neighbourWith) (pc1 := 51) dX8_stands_48 rfl lkX8_84 tmX8_neighbourWith rfl (r_neighbourWith x n nr ot cf sf (f, upd g st.length (nI (c + 1)), h, nI (st.length + 1)) W L T V P hg hn hc hok.c30 (v := v) (c := c) (by omega) (by omega)) (Nat.le_of_ble_eq_true rfl) rfl (Nat.le_of_ble_eq_true rfl) (Nat.le_of_ble_eq_true rfl) ?_
  rintro _ _ ⟨rfl, rfl⟩
  have hen := enL_neg hn (nbW_le n A col v c)
  show aGo _ 51 _ [.int (enL n (nbW n A col v c))] _ _ _
  refine g_if_lt (pc1 := 54) (tgt := 103) dX8_stands_51 rfl (by decide) (fun c1 => ?_) (fun c1 => ?_)
  · have h0 : hC n A col v c = false := by
      cases hx : hC n A col v c with
      | false => rfl
      | true => exact absurd (nbW_hC.mpr hx) (hen.mp c1)
    refine g_aload_n (i := 0) (pc1 := 104) dX8_stands_103 rfl rfl rfl ?_
    refine g_get (pc1 := 107) dX8_stands_104 rfl flX8_41 rfl rfl ?_
    refine g_iconst (v := 2) (pc1 := 108) dX8_stands_107 rfl (by decide) ?_
    refine g_iload_n (i := 1) (pc1 := 109) dX8_stands_108 rfl rfl rfl ?_
    refine g_imul (pc1 := 110) dX8_stands_109 rfl ?_
    refine g_ialdJ (pc1 := 111) dX8_stands_110 rfl rfl (ix2 t) (by omega) (by decide) ?_
    refine g_iconst (v := 3) (pc1 := 112) dX8_stands_111 rfl (by decide) ?_
    rw [hty.1]
    refine g_icmp_ne (pc1 := 115) (tgt := 122) dX8_stands_112 rfl (by decide) (fun c2 => ?_) (fun c2 => ?_)
    · refine g_iconst (v := (-1)) (pc1 := 123) dX8_stands_122 rfl (by decide) ?_
      refine g_iret dX8_stands_123 rfl rfl (Nat.le_of_ble_eq_true rfl) (Nat.le_of_ble_eq_true rfl) ?_
      exact ⟨_, hnx, Or.inr (Or.inr (Or.inr ⟨h0, by rw [decide_eq_false c2]; rfl, rfl, rfl⟩))⟩
    · refine g_iload (pc1 := 117) dX8_stands_115 rfl rfl ?_
      refine g_iload (pc1 := 119) dX8_stands_117 rfl rfl ?_
      refine g_icmp_eq (pc1 := 122) (tgt := 124) dX8_stands_119 rfl (by decide) (fun c3 => ?_) (fun c3 => ?_)
      · refine g_aload_n (i := 0) (pc1 := 125) dX8_stands_124 rfl rfl rfl ?_
        refine g_get (pc1 := 128) dX8_stands_125 rfl flX8_16 rfl rfl ?_
        refine g_iload_n (i := 3) (pc1 := 129) dX8_stands_128 rfl rfl rfl ?_
        refine g_iload (pc1 := 131) dX8_stands_129 rfl rfl ?_
        refine g_iastJ (pc1 := 132) dX8_stands_131 rfl rfl rfl (by omega) (by decide) ?_
        refine g_iconst (v := 1) (pc1 := 133) dX8_stands_132 rfl (by decide) ?_
        refine g_iret dX8_stands_133 rfl rfl (Nat.le_of_ble_eq_true rfl) (Nat.le_of_ble_eq_true rfl) ?_
        exact ⟨_, hnx, Or.inr (Or.inr (Or.inl ⟨h0, by rw [decide_eq_true c2, decide_eq_true c3]; rfl, rfl, rfl⟩))⟩
      · refine g_iconst (v := (-1)) (pc1 := 123) dX8_stands_122 rfl (by decide) ?_
        refine g_iret dX8_stands_123 rfl rfl (Nat.le_of_ble_eq_true rfl) (Nat.le_of_ble_eq_true rfl) ?_
        exact ⟨_, hnx, Or.inr (Or.inr (Or.inr ⟨h0, by rw [decide_eq_false c3]; simp, rfl, rfl⟩))⟩
  · have h0 : hC n A col v c = true := by
      cases hx : hC n A col v c with
      | true => rfl
      | false => exact absurd (hen.mpr (fun q => by rw [nbW_hC.mp q] at hx; cases hx)) c1
    have bad : (decide (o = 2) && blk n A col v c y) = false → ∀ ls, aGo (2, 0, 0, mX8_stands, none, fun w g => ∃ F' : tF, fC F' (st ++ [(v, c + 1, u)]) ∧
    ((hC n A col v c = true ∧ (decide (o = 2) && blk n A col v c y) = true ∧ w = some (.int 0) ∧ g = rp x (nI n, nr, ot) (cf, sf) F' W L T V P) ∨
    (hC n A col v c = true ∧ (decide (o = 2) && blk n A col v c y) = false ∧ w = some (.int (-1)) ∧ g = rp x (nI n, nr, ot) (cf, sf) F' W L T V P) ∨
    (hC n A col v c = false ∧ (decide (o = 3) && decide (y = nI c)) = true ∧ w = some (.int 1) ∧ g = rp x (nI n, nr, ot) (upd cf v (nI c), sf) F' W L T V P) ∨
    (hC n A col v c = false ∧ (decide (o = 3) && decide (y = nI c)) = false ∧ w = some (.int (-1)) ∧ g = rp x (nI n, nr, ot) (cf, sf) F' W L T V P))) 101 ls [] (rp x (nI n, nr, ot) (cf, sf) (f, upd g st.length (nI (c + 1)), h, nI (st.length + 1)) W L T V P) 0 0 := by
      intro hb ls
      refine g_iconst (v := (-1)) (pc1 := 102) dX8_stands_101 rfl (by decide) ?_
      refine g_iret dX8_stands_102 rfl rfl (Nat.le_of_ble_eq_true rfl) (Nat.le_of_ble_eq_true rfl) ?_
      exact ⟨_, hnx, Or.inr (Or.inl ⟨h0, hb, rfl, rfl⟩)⟩
    refine g_aload_n (i := 0) (pc1 := 55) dX8_stands_54 rfl rfl rfl ?_
    refine g_get (pc1 := 58) dX8_stands_55 rfl flX8_41 rfl rfl ?_
    refine g_iconst (v := 2) (pc1 := 59) dX8_stands_58 rfl (by decide) ?_
    refine g_iload_n (i := 1) (pc1 := 60) dX8_stands_59 rfl rfl rfl ?_
    refine g_imul (pc1 := 61) dX8_stands_60 rfl ?_
    refine g_ialdJ (pc1 := 62) dX8_stands_61 rfl rfl (ix2 t) (by omega) (by decide) ?_
    refine g_iconst (v := 2) (pc1 := 63) dX8_stands_62 rfl (by decide) ?_
    rw [hty.1]
    refine g_icmp_ne (pc1 := 66) (tgt := 101) dX8_stands_63 rfl (by decide) (fun c2 => ?_) (fun c2 => ?_)
    · exact bad (by rw [decide_eq_false c2]; rfl) _
    · refine g_aload_n (i := 0) (pc1 := 67) dX8_stands_66 rfl rfl rfl ?_
      refine g_iload (pc1 := 69) dX8_stands_67 rfl rfl ?_
      refine g_V1 (M := mX8_isVertex) (pc1 := 72) dX8_stands_69 rfl lkX8_58 tmX8_isVertex rfl (r_isVertex x n nr ot (cf, sf) (f, upd g st.length (nI (c + 1)), h, nI (st.length + 1)) W L T V P y) (Nat.le_of_ble_eq_true rfl) rfl (Nat.le_of_ble_eq_true rfl) (Nat.le_of_ble_eq_true rfl) ?_
      rintro _ _ ⟨rfl, rfl⟩
      refine g_if_eq (pc1 := 75) (tgt := 101) dX8_stands_72 rfl (by decide) (fun c3 => ?_) (fun c3 => ?_)
      · rw [bI_eq0] at c3
        exact bad (by unfold blk; rw [c3]; simp) _
      · rw [bI_ne0] at c3
        obtain ⟨w, hw, rfl⟩ := (vtx_iff hn).mp c3
        have hcl : (nI w).toNatClampNeg = w := nI_clamp (by omega)
        refine g_aload_n (i := 0) (pc1 := 76) dX8_stands_75 rfl rfl rfl ?_
        refine g_iload_n (i := 3) (pc1 := 77) dX8_stands_76 rfl rfl rfl ?_
        refine g_iload (pc1 := 79) dX8_stands_77 rfl rfl ?_
        refine g_V2 (M := mX8_isNear) (pc1 := 82) dX8_stands_79 rfl lkX8_62 tmX8_isNear rfl (r_isNear x n nr ot (cf, sf) (f, upd g st.length (nI (c + 1)), h, nI (st.length + 1)) W L T V P hg (a := v) (b := w) (by omega) (by omega)) (Nat.le_of_ble_eq_true rfl) rfl (Nat.le_of_ble_eq_true rfl) (Nat.le_of_ble_eq_true rfl) ?_
        rintro _ _ ⟨rfl, rfl⟩
        refine g_if_eq (pc1 := 85) (tgt := 101) dX8_stands_82 rfl (by decide) (fun c4 => ?_) (fun c4 => ?_)
        · rw [bI_eq0] at c4
          exact bad (by unfold blk; rw [hcl, c4]; simp) _
        · rw [bI_ne0] at c4
          refine g_aload_n (i := 0) (pc1 := 86) dX8_stands_85 rfl rfl rfl ?_
          refine g_get (pc1 := 89) dX8_stands_86 rfl flX8_16 rfl rfl ?_
          refine g_iload (pc1 := 91) dX8_stands_89 rfl rfl ?_
          refine g_ialdJ (pc1 := 92) dX8_stands_91 rfl rfl rfl (by omega) (by decide) ?_
          refine g_iload (pc1 := 94) dX8_stands_92 rfl rfl ?_
          rw [show (cf, sf).1 w = enO (col w) from hc w (by omega)]
          have hi := enO_c (o := col w) (fun d q => hok.c30 w d q) (c := c) (by omega)
          refine g_icmp_ne (pc1 := 97) (tgt := 101) dX8_stands_94 rfl (by decide) (fun c5 => ?_) (fun c5 => ?_)
          · exact bad (by unfold blk; rw [hcl, decide_eq_false (fun q => c5 (hi.mpr q))]; simp) _
          · refine g_iconst (v := 0) (pc1 := 98) dX8_stands_97 rfl (by decide) ?_
            refine g_goto (tgt := 102) dX8_stands_98 (by decide) ?_
            refine g_iret dX8_stands_102 rfl rfl (Nat.le_of_ble_eq_true rfl) (Nat.le_of_ble_eq_true rfl) ?_
            exact ⟨_, hnx, Or.inl ⟨h0, by unfold blk; rw [hcl, decide_eq_true (hi.mp c5), c3, c4, decide_eq_true c2]; rfl, rfl, rfl⟩⟩
end
