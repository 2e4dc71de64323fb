/-! ===== the reference: solving ===== -/
theorem opc_take {lg : tLog} {i : Nat} {a b : Int32} (h : lg[i]? = some (a, b)) (o : Int32) : opc o (lg.take (i + 1)) = opc o (lg.take i) + (if a = o then 1 else 0) := by
  rw [List.take_add_one, h]
  exact opc_app o _ a b
theorem rL.copy {W : tW} {lg : tLog} (h : rL W lg) {f : fI} (hf : ∀ j, j < 2 * lg.length → f j = W.1 j) : rL (f, W.2) lg := by
  refine ⟨h.1, h.2.1, fun i a b hi => ?_⟩
  have hl := (List.getElem?_eq_some_iff.mp hi).1
  show f (2 * i) = a ∧ f (2 * i + 1) = b
  rw [hf _ (by omega), hf _ (by omega)]
  exact h.2.2 i a b hi
theorem clq_more {A : Nat → Nat → Bool} {f : Nat → Nat} {n : Nat} {O : Nat → Bool} {i v : Nat} (h : (clq A f n O i).1 v = true) : ∀ k, (clq A f n O (i + k)).1 v = true
  | 0 => h
  | k + 1 => by
    have ih := clq_more h k
    show (match amx (clq A f n O (i + k)).2 f n with
      | none => clq A f n O (i + k)
      | some w => (fun j => (clq A f n O (i + k)).1 j || decide (j = w), fun j => (clq A f n O (i + k)).2 j && A w j)).1 v = true
    cases amx (clq A f n O (i + k)).2 f n with
    | none => exact ih
    | some w => show ((clq A f n O (i + k)).1 v || decide (v = w)) = true; rw [ih]; rfl
theorem clqR_0 {n : Nat} {A : Nat → Nat → Bool} (hn : n ≤ 30) : bS (clqR A n) = 0 ↔ n = 0 := by
  constructor
  · intro h
    refine Classical.byContradiction fun h0 => ?_
    have h1 := bS_eq0.mp h
    cases hv : amx (fun i => decide (i < n)) (dg A n) n with
    | none =>
      have := amx_none.mp hv 0 (by omega)
      simp at this; omega
    | some v =>
      have hvn := (amx_some hv).1
      have h2 : (clq A (dg A n) n (fun i => decide (i < n)) (0 + 1)).1 v = true := by
        show (match amx (fun i => decide (i < n)) (dg A n) n with
          | none => clq A (dg A n) n (fun i => decide (i < n)) 0
          | some w => (fun j => (clq A (dg A n) n (fun i => decide (i < n)) 0).1 j || decide (j = w), fun j => (clq A (dg A n) n (fun i => decide (i < n)) 0).2 j && A w j)).1 v = true
        rw [hv]; simp
      have h3 := clq_more h2 (n - 1)
      rw [show 0 + 1 + (n - 1) = n by omega] at h3
      have h4 := h1 v (by omega)
      unfold clqR at h4
      rw [h3] at h4; cases h4
  · rintro rfl
    exact bS_eq0.mpr fun i _ => rfl
theorem fgS_full (n : Nat) (A : Nat → Nat → Bool) : chS n A (fgS n A n).1 = none := by
  have key : ∀ i, chS n A (fgS n A i).1 = none ∨ cnt (brP n (fgS n A i).1) n + i ≤ n := by
    intro i
    induction i with
    | zero => right; have := cnt_le (brP n (fgS n A 0).1) n; omega
    | succ i ih =>
      cases hc : chS n A (fgS n A i).1 with
      | none => left; rw [show fgS n A (i + 1) = fgS n A i from fgS_stop hc 1]; exact hc
      | some v =>
        right
        rcases ih with ih | ih
        · rw [ih] at hc; cases hc
        · obtain ⟨g1, g2⟩ := chS_some hc
          rw [fgS_succ hc]
          have := cnt_brP_set (c := lu n A (fgS n A i).1 v) g1 g2
          show cnt (brP n (cset (fgS n A i).1 v (lu n A (fgS n A i).1 v))) n + (i + 1) ≤ n
          omega
  rcases key n with h | h
  · exact h
  · refine amx_none.mpr fun j hj => ?_
    cases hb : brP n (fgS n A n).1 j with
    | false => rfl
    | true => have := cnt_pos (p := brP n (fgS n A n).1) hj hb; omega
theorem full_0 {n u : Nat} {A : Nat → Nat → Bool} {col : tCol} (hok : Cok n col u) (hf : chS n A col = none) : u = 0 ↔ n = 0 := by
  constructor
  · intro h
    refine Classical.byContradiction fun h0 => ?_
    have h1 := amx_none.mp hf 0 (by omega)
    unfold brP at h1
    rw [decide_eq_true (by omega)] at h1
    cases hc : col 0 with
    | none => rw [hc] at h1; cases h1
    | some c => have := (hok.2.1 c).mpr ⟨0, hc⟩; omega
  · intro h
    have := hok.le; omega
section
variable (x : Nat → aC) (n : Nat) (nr ot : fI) (cf sf : fI) (F : tF) (W L T : tW) (V : tM) (P : fI)
theorem r_keepBest {col : tCol} (hn : n ≤ 30) (hc : rK cf col) : aRet 0 0 0 mX8_keepBest [.ref 24] (rp x (nI n, nr, ot) (cf, sf) F W L T V P) (fun w g => w = none ∧ ∃ b : fI, bsC n b col ∧ g = rp x (nI n, nr, ot) (cf, sf) F W L T (V.1, b, V.2.2) P) := by
  refine aRet.of (by decide) (Nat.le_of_ble_eq_true rfl) (a_ok2 rfl) ?_
  refine g_iconst (v := 0) (pc1 := 1) dX8_keepBest_0 rfl (by decide) ?_
  refine g_istore_n (i := 1) (pc1 := 2) dX8_keepBest_1 rfl rfl (Nat.le_of_ble_eq_true rfl) ?_
  have key : ∀ b : fI, (∀ v, v < 0 → b v = enO (col v)) → aGo (0, 0, 0, mX8_keepBest, none, fun w g => w = none ∧ ∃ b : fI, bsC n b col ∧ g = rp x (nI n, nr, ot) (cf, sf) F W L T (V.1, b, V.2.2) P) 2 [.ref 24, .int (nI 0)] [] (rp x (nI n, nr, ot) (cf, sf) F W L T (V.1, b, V.2.2) P) 0 0 := by
    refine down0 (P := fun i => ∀ b : fI, (∀ v, v < i → b v = enO (col v)) → aGo _ 2 [.ref 24, .int (nI i)] [] (rp x (nI n, nr, ot) (cf, sf) F W L T (V.1, b, V.2.2) P) 0 0) n ?_ ?_
    · intro b hb
      refine g_iload_n (i := 1) (pc1 := 3) dX8_keepBest_2 rfl rfl rfl ?_
      refine g_aload_n (i := 0) (pc1 := 4) dX8_keepBest_3 rfl rfl rfl ?_
      refine g_get (pc1 := 7) dX8_keepBest_4 rfl flX8_50 rfl rfl ?_
      refine g_icmp_ge (pc1 := 10) (tgt := 28) dX8_keepBest_7 rfl (by decide) (fun _ => ?_) (fun hbr9 => absurd (Int32.le_refl _) hbr9)
      refine g_vret dX8_keepBest_28 rfl (Nat.le_of_ble_eq_true rfl) (Nat.le_of_ble_eq_true rfl) ?_
      exact ⟨rfl, b, hb, rfl⟩
    · intro i hi ih b hb
      refine g_iload_n (i := 1) (pc1 := 3) dX8_keepBest_2 rfl rfl rfl ?_
      refine g_aload_n (i := 0) (pc1 := 4) dX8_keepBest_3 rfl rfl rfl ?_
      refine g_get (pc1 := 7) dX8_keepBest_4 rfl flX8_50 rfl rfl ?_
      refine g_icmp_ge (pc1 := 10) (tgt := 28) dX8_keepBest_7 rfl (by decide) (fun hbr9 => absurd hbr9 (fun c => absurd ((nI_leI (a := n) (b := i) (by omega) (by omega)).mp c) (by omega))) (fun _ => ?_)
      refine g_aload_n (i := 0) (pc1 := 11) dX8_keepBest_10 rfl rfl rfl ?_
      refine g_get (pc1 := 14) dX8_keepBest_11 rfl flX8_20 rfl rfl ?_
      refine g_iload_n (i := 1) (pc1 := 15) dX8_keepBest_14 rfl rfl rfl ?_
      refine g_aload_n (i := 0) (pc1 := 16) dX8_keepBest_15 rfl rfl rfl ?_
      refine g_get (pc1 := 19) dX8_keepBest_16 rfl flX8_16 rfl rfl ?_
      refine g_iload_n (i := 1) (pc1 := 20) dX8_keepBest_19 rfl rfl rfl ?_
      refine g_ialdJ (pc1 := 21) dX8_keepBest_20 rfl rfl rfl (by omega) (by decide) ?_
      refine g_iastJ (pc1 := 22) dX8_keepBest_21 rfl rfl rfl (by omega) (by decide) ?_
      refine g_iinc (pc1 := 25) dX8_keepBest_22 rfl rfl rfl ?_
      refine g_goto (tgt := 2) dX8_keepBest_25 (by decide) ?_
      refine aGo.eq (ih (upd b i (cf i)) (fun v hv => ?_)) ?_ rfl rfl
      · by_cases e : v = i
        · subst e; rw [pk_us]; exact hc v (by omega)
        · rw [pk_un e]; exact hb v (by omega)
      · show [Value.ref 24, .int (nI i + Int32.ofInt 1)] = _
        rw [show nI i + Int32.ofInt 1 = nI (i + 1) from nI_1 i]
  exact aGo.eq (key V.2.1 (fun v h => absurd h (Nat.not_lt_zero v))) rfl rfl rfl
set_option maxHeartbeats 1000000 in
theorem r_countWork (N : tG) (Q : tQ) {lg : tLog} (hW : rL W lg) (y : Int32) : aRet 0 0 0 mX8_countWork [.ref 24, .int y] (rp x N Q F W L T V P) (fun w g => w = none ∧ ∃ t : fI, t 0 = V.2.2 0 + 1 ∧ t 1 = V.2.2 1 + nI lg.length ∧ t 2 = V.2.2 2 + nI (opc 1 lg) ∧ t 3 = V.2.2 3 + nI (opc 4 lg) ∧ t 4 = V.2.2 4 + y ∧ g = rp x N Q F W L T (V.1, V.2.1, t) P) := by
  have i0 : (0 : Int32) = nI 0 := rfl
  have i1 : (1 : Int32) = nI 1 := rfl
  have i2 : (2 : Int32) = nI 2 := rfl
  have i3 : (3 : Int32) = nI 3 := rfl
  have i4 : (4 : Int32) = nI 4 := rfl
  have hl := hW.2.1
  obtain ⟨wf, wm⟩ := W
  obtain rfl : wm = nI lg.length := hW.1
  obtain ⟨vs, vb, vt⟩ := V
  refine aRet.of (by decide) (Nat.le_of_ble_eq_true rfl) (a_ok2 rfl) ?_
  refine g_aload_n (i := 0) (pc1 := 1) dX8_countWork_0 rfl rfl rfl ?_
  refine g_get (pc1 := 4) dX8_countWork_1 rfl flX8_44 rfl rfl ?_
  refine g_iconst (v := 0) (pc1 := 5) dX8_countWork_4 rfl (by decide) ?_
  refine g_dup2 (pc1 := 6) dX8_countWork_5 rfl rfl rfl ?_
  refine g_ialdJ (pc1 := 7) dX8_countWork_6 rfl rfl i0 (by decide) (by decide) ?_
  refine g_iconst (v := 1) (pc1 := 8) dX8_countWork_7 rfl (by decide) ?_
  refine g_iadd (pc1 := 9) dX8_countWork_8 rfl ?_
  refine g_iastJ (pc1 := 10) dX8_countWork_9 rfl rfl i0 (by decide) (by decide) ?_
  refine g_aload_n (i := 0) (pc1 := 11) dX8_countWork_10 rfl rfl rfl ?_
  refine g_get (pc1 := 14) dX8_countWork_11 rfl flX8_44 rfl rfl ?_
  refine g_iconst (v := 1) (pc1 := 15) dX8_countWork_14 rfl (by decide) ?_
  refine g_dup2 (pc1 := 16) dX8_countWork_15 rfl rfl rfl ?_
  refine g_ialdJ (pc1 := 17) dX8_countWork_16 rfl rfl i1 (by decide) (by decide) ?_
  refine g_aload_n (i := 0) (pc1 := 18) dX8_countWork_17 rfl rfl rfl ?_
  refine g_get (pc1 := 21) dX8_countWork_18 rfl flX8_118 rfl rfl ?_
  refine g_iadd (pc1 := 22) dX8_countWork_21 rfl ?_
  refine g_iastJ (pc1 := 23) dX8_countWork_22 rfl rfl i1 (by decide) (by decide) ?_
  refine g_aload_n (i := 0) (pc1 := 24) dX8_countWork_23 rfl rfl rfl ?_
  refine g_get (pc1 := 27) dX8_countWork_24 rfl flX8_44 rfl rfl ?_
  refine g_iconst (v := 4) (pc1 := 28) dX8_countWork_27 rfl (by decide) ?_
  refine g_dup2 (pc1 := 29) dX8_countWork_28 rfl rfl rfl ?_
  refine g_ialdJ (pc1 := 30) dX8_countWork_29 rfl rfl i4 (by decide) (by decide) ?_
  refine g_iload_n (i := 1) (pc1 := 31) dX8_countWork_30 rfl rfl rfl ?_
  refine g_iadd (pc1 := 32) dX8_countWork_31 rfl ?_
  refine g_iastJ (pc1 := 33) dX8_countWork_32 rfl rfl i4 (by decide) (by decide) ?_
  refine g_iconst (v := 0) (pc1 := 34) dX8_countWork_33 rfl (by decide) ?_
  refine g_istore_n (i := 2) (pc1 := 35) dX8_countWork_34 rfl rfl (Nat.le_of_ble_eq_true rfl) ?_
  have key : ∀ t : fI, t 0 = vt 0 + 1 → t 1 = vt 1 + nI lg.length → t 2 = vt 2 + nI (opc 1 (lg.take 0)) → t 3 = vt 3 + nI (opc 4 (lg.take 0)) → t 4 = vt 4 + y → aGo (0, 0, 0, mX8_countWork, none, fun w g => w = none ∧ ∃ t : fI, t 0 = vt 0 + 1 ∧ t 1 = vt 1 + nI lg.length ∧ t 2 = vt 2 + nI (opc 1 lg) ∧ t 3 = vt 3 + nI (opc 4 lg) ∧ t 4 = vt 4 + y ∧ g = rp x N Q F (wf, nI lg.length) L T (vs, vb, t) P) 35 [.ref 24, .int y, .int (nI 0)] [] (rp x N Q F (wf, nI lg.length) L T (vs, vb, t) P) 0 0 := by
    refine down0 (P := fun i => ∀ t : fI, t 0 = vt 0 + 1 → t 1 = vt 1 + nI lg.length → t 2 = vt 2 + nI (opc 1 (lg.take i)) → t 3 = vt 3 + nI (opc 4 (lg.take i)) → t 4 = vt 4 + y → aGo _ 35 [.ref 24, .int y, .int (nI i)] [] (rp x N Q F (wf, nI lg.length) L T (vs, vb, t) P) 0 0) lg.length ?_ ?_
    · intro t h0 h1 h2 h3 h4
      refine g_iload_n (i := 2) (pc1 := 36) dX8_countWork_35 rfl rfl rfl ?_
      refine g_aload_n (i := 0) (pc1 := 37) dX8_countWork_36 rfl rfl rfl ?_
      refine g_get (pc1 := 40) dX8_countWork_37 rfl flX8_118 rfl rfl ?_
      refine g_icmp_ge (pc1 := 43) (tgt := 101) dX8_countWork_40 rfl (by decide) (fun _ => ?_) (fun hbr9 => absurd (Int32.le_refl _) hbr9)
      refine g_vret dX8_countWork_101 rfl (Nat.le_of_ble_eq_true rfl) (Nat.le_of_ble_eq_true rfl) ?_
      rw [List.take_length] at h2 h3
      exact ⟨rfl, t, h0, h1, h2, h3, h4, rfl⟩
    · intro i hi ih t h0 h1 h2 h3 h4
      obtain ⟨⟨a, b⟩, hab⟩ : ∃ e, lg[i]? = some e := ⟨lg[i], List.getElem?_eq_getElem hi⟩
      have hw := (hW.2.2 i a b hab).1
      refine g_iload_n (i := 2) (pc1 := 36) dX8_countWork_35 rfl rfl rfl ?_
      refine g_aload_n (i := 0) (pc1 := 37) dX8_countWork_36 rfl rfl rfl ?_
      refine g_get (pc1 := 40) dX8_countWork_37 rfl flX8_118 rfl rfl ?_
      refine g_icmp_ge (pc1 := 43) (tgt := 101) dX8_countWork_40 rfl (by decide) (fun hbr9 => absurd hbr9 (fun c => absurd ((nI_leI (a := lg.length) (b := i) (by omega) (by omega)).mp c) (by omega))) (fun _ => ?_)
      refine g_aload_n (i := 0) (pc1 := 44) dX8_countWork_43 rfl rfl rfl ?_
      refine g_get (pc1 := 47) dX8_countWork_44 rfl flX8_44 rfl rfl ?_
      refine g_iconst (v := 2) (pc1 := 48) dX8_countWork_47 rfl (by decide) ?_
      refine g_dup2 (pc1 := 49) dX8_countWork_48 rfl rfl rfl ?_
      refine g_ialdJ (pc1 := 50) dX8_countWork_49 rfl rfl i2 (by decide) (by decide) ?_
      refine g_aload_n (i := 0) (pc1 := 51) dX8_countWork_50 rfl rfl rfl ?_
      refine g_get (pc1 := 54) dX8_countWork_51 rfl flX8_35 rfl rfl ?_
      refine g_iconst (v := 2) (pc1 := 55) dX8_countWork_54 rfl (by decide) ?_
      refine g_iload_n (i := 2) (pc1 := 56) dX8_countWork_55 rfl rfl rfl ?_
      refine g_imul (pc1 := 57) dX8_countWork_56 rfl ?_
      refine g_ialdJ (pc1 := 58) dX8_countWork_57 rfl rfl (ix2 i) (by omega) (by decide) ?_
      refine g_iconst (v := 1) (pc1 := 59) dX8_countWork_58 rfl (by decide) ?_
      rw [hw]
      have two : ∀ t : fI, t 0 = vt 0 + 1 → t 1 = vt 1 + nI lg.length → t 2 = vt 2 + nI (opc 1 (lg.take (i + 1))) → t 3 = vt 3 + nI (opc 4 (lg.take i)) → t 4 = vt 4 + y → aGo (0, 0, 0, mX8_countWork, none, fun w g => w = none ∧ ∃ t : fI, t 0 = vt 0 + 1 ∧ t 1 = vt 1 + nI lg.length ∧ t 2 = vt 2 + nI (opc 1 lg) ∧ t 3 = vt 3 + nI (opc 4 lg) ∧ t 4 = vt 4 + y ∧ g = rp x N Q F (wf, nI lg.length) L T (vs, vb, t) P) 69 [.ref 24, .int y, .int (nI i)] [] (rp x N Q F (wf, nI lg.length) L T (vs, vb, t) P) 0 0 := by
        intro t h0 h1 h2 h3 h4
        refine g_aload_n (i := 0) (pc1 := 70) dX8_countWork_69 rfl rfl rfl ?_
        refine g_get (pc1 := 73) dX8_countWork_70 rfl flX8_44 rfl rfl ?_
        refine g_iconst (v := 3) (pc1 := 74) dX8_countWork_73 rfl (by decide) ?_
        refine g_dup2 (pc1 := 75) dX8_countWork_74 rfl rfl rfl ?_
        refine g_ialdJ (pc1 := 76) dX8_countWork_75 rfl rfl i3 (by decide) (by decide) ?_
        refine g_aload_n (i := 0) (pc1 := 77) dX8_countWork_76 rfl rfl rfl ?_
        refine g_get (pc1 := 80) dX8_countWork_77 rfl flX8_35 rfl rfl ?_
        refine g_iconst (v := 2) (pc1 := 81) dX8_countWork_80 rfl (by decide) ?_
        refine g_iload_n (i := 2) (pc1 := 82) dX8_countWork_81 rfl rfl rfl ?_
        refine g_imul (pc1 := 83) dX8_countWork_82 rfl ?_
        refine g_ialdJ (pc1 := 84) dX8_countWork_83 rfl rfl (ix2 i) (by omega) (by decide) ?_
        refine g_iconst (v := 4) (pc1 := 85) dX8_countWork_84 rfl (by decide) ?_
        rw [hw]
        refine g_icmp_ne (pc1 := 88) (tgt := 92) dX8_countWork_85 rfl (by decide) (fun c => ?_) (fun c => ?_)
        · refine g_iconst (v := 0) (pc1 := 93) dX8_countWork_92 rfl (by decide) ?_
          refine g_iadd (pc1 := 94) dX8_countWork_93 rfl ?_
          refine g_iastJ (pc1 := 95) dX8_countWork_94 rfl rfl i3 (by decide) (by decide) ?_
          refine g_iinc (pc1 := 98) dX8_countWork_95 rfl rfl rfl ?_
          refine g_goto (tgt := 35) dX8_countWork_98 (by decide) ?_
          refine aGo.eq (ih (upd t 3 (t 3 + 0)) h0 h1 h2 ?_ h4) ?_ rfl rfl
          · rw [pk_us, h3, opc_take hab, if_neg c]; simp
          · show [Value.ref 24, .int y, .int (nI i + Int32.ofInt 1)] = _
            rw [show nI i + Int32.ofInt 1 = nI (i + 1) from nI_1 i]
        · refine g_iconst (v := 1) (pc1 := 89) dX8_countWork_88 rfl (by decide) ?_
          refine g_goto (tgt := 93) dX8_countWork_89 (by decide) ?_
          refine g_iadd (pc1 := 94) dX8_countWork_93 rfl ?_
          refine g_iastJ (pc1 := 95) dX8_countWork_94 rfl rfl i3 (by decide) (by decide) ?_
          refine g_iinc (pc1 := 98) dX8_countWork_95 rfl rfl rfl ?_
          refine g_goto (tgt := 35) dX8_countWork_98 (by decide) ?_
          refine aGo.eq (ih (upd t 3 (t 3 + 1)) h0 h1 h2 ?_ h4) ?_ rfl rfl
          · rw [pk_us, h3, opc_take hab, if_pos c, ← nI_1, Int32.add_assoc]
          · show [Value.ref 24, .int y, .int (nI i + Int32.ofInt 1)] = _
            rw [show nI i + Int32.ofInt 1 = nI (i + 1) from nI_1 i]
      refine g_icmp_ne (pc1 := 62) (tgt := 66) dX8_countWork_59 rfl (by decide) (fun c => ?_) (fun c => ?_)
      · refine g_iconst (v := 0) (pc1 := 67) dX8_countWork_66 rfl (by decide) ?_
        refine g_iadd (pc1 := 68) dX8_countWork_67 rfl ?_
        refine g_iastJ (pc1 := 69) dX8_countWork_68 rfl rfl i2 (by decide) (by decide) ?_
        refine two (upd t 2 (t 2 + 0)) h0 h1 ?_ h3 h4
        rw [pk_us, h2, opc_take hab, if_neg c]; simp
      · refine g_iconst (v := 1) (pc1 := 63) dX8_countWork_62 rfl (by decide) ?_
        refine g_goto (tgt := 67) dX8_countWork_63 (by decide) ?_
        refine g_iadd (pc1 := 68) dX8_countWork_67 rfl ?_
        refine g_iastJ (pc1 := 69) dX8_countWork_68 rfl rfl i2 (by decide) (by decide) ?_
        refine two (upd t 2 (t 2 + 1)) h0 h1 ?_ h3 h4
        rw [pk_us, h2, opc_take hab, if_pos c, ← nI_1, Int32.add_assoc]
  refine aGo.eq (key (upd (upd (upd vt 0 (vt 0 + 1)) 1 (vt 1 + nI lg.length)) 4 (vt 4 + y)) rfl rfl ?_ ?_ rfl) rfl rfl rfl
  · show vt 2 = vt 2 + 0; simp
  · show vt 3 = vt 3 + 0; simp
theorem r_tellWritten (N : tG) (Q : tQ) {lg : tLog} (hW : rL W lg) : aRet 0 0 0 mX8_tellWritten [.ref 24] (rp x N Q F W L T V P) (fun w g => w = none ∧ ∃ T' : tW, rL T' lg ∧ g = rp x N Q F W L T' V P) := by
  have hl := hW.2.1
  obtain ⟨wf, wm⟩ := W
  obtain rfl : wm = nI lg.length := hW.1
  refine aRet.of (by decide) (Nat.le_of_ble_eq_true rfl) (a_ok2 rfl) ?_
  refine g_iconst (v := 0) (pc1 := 1) dX8_tellWritten_0 rfl (by decide) ?_
  refine g_istore_n (i := 1) (pc1 := 2) dX8_tellWritten_1 rfl rfl (Nat.le_of_ble_eq_true rfl) ?_
  have key : ∀ t : fI, (∀ j, j < 0 → t j = wf j) → aGo (0, 0, 0, mX8_tellWritten, none, fun w g => w = none ∧ ∃ T' : tW, rL T' lg ∧ g = rp x N Q F (wf, nI lg.length) L T' V P) 2 [.ref 24, .int (nI 0)] [] (rp x N Q F (wf, nI lg.length) L (t, T.2) V P) 0 0 := by
    refine down0 (P := fun i => ∀ t : fI, (∀ j, j < i → t j = wf j) → aGo _ 2 [.ref 24, .int (nI i)] [] (rp x N Q F (wf, nI lg.length) L (t, T.2) V P) 0 0) (2 * lg.length) ?_ ?_
    · intro t ht
      refine g_iload_n (i := 1) (pc1 := 3) dX8_tellWritten_2 rfl rfl rfl ?_
      refine g_iconst (v := 2) (pc1 := 4) dX8_tellWritten_3 rfl (by decide) ?_
      refine g_aload_n (i := 0) (pc1 := 5) dX8_tellWritten_4 rfl rfl rfl ?_
      refine g_get (pc1 := 8) dX8_tellWritten_5 rfl flX8_118 rfl rfl ?_
      refine g_imul (pc1 := 9) dX8_tellWritten_8 rfl ?_
      dsimp only
      rw [ix2]
      refine g_icmp_ge (pc1 := 12) (tgt := 30) dX8_tellWritten_9 rfl (by decide) (fun _ => ?_) (fun hbr9 => absurd (Int32.le_refl _) hbr9)
      refine g_aload_n (i := 0) (pc1 := 31) dX8_tellWritten_30 rfl rfl rfl ?_
      refine g_aload_n (i := 0) (pc1 := 32) dX8_tellWritten_31 rfl rfl rfl ?_
      refine g_get (pc1 := 35) dX8_tellWritten_32 rfl flX8_118 rfl rfl ?_
      refine g_puti (pc1 := 38) dX8_tellWritten_35 rfl flX8_158 rfl (Nat.le_of_ble_eq_true rfl) rfl rfl ?_
      refine g_vret dX8_tellWritten_38 rfl (Nat.le_of_ble_eq_true rfl) (Nat.le_of_ble_eq_true rfl) ?_
      exact ⟨rfl, (t, nI lg.length), hW.copy ht, rfl⟩
    · intro i hi ih t ht
      refine g_iload_n (i := 1) (pc1 := 3) dX8_tellWritten_2 rfl rfl rfl ?_
      refine g_iconst (v := 2) (pc1 := 4) dX8_tellWritten_3 rfl (by decide) ?_
      refine g_aload_n (i := 0) (pc1 := 5) dX8_tellWritten_4 rfl rfl rfl ?_
      refine g_get (pc1 := 8) dX8_tellWritten_5 rfl flX8_118 rfl rfl ?_
      refine g_imul (pc1 := 9) dX8_tellWritten_8 rfl ?_
      dsimp only
      rw [ix2]
      refine g_icmp_ge (pc1 := 12) (tgt := 30) dX8_tellWritten_9 rfl (by decide) (fun hbr9 => absurd hbr9 (fun c => absurd ((nI_leI (a := 2 * lg.length) (b := i) (by omega) (by omega)).mp c) (by omega))) (fun _ => ?_)
      refine g_aload_n (i := 0) (pc1 := 13) dX8_tellWritten_12 rfl rfl rfl ?_
      refine g_get (pc1 := 16) dX8_tellWritten_13 rfl flX8_41 rfl rfl ?_
      refine g_iload_n (i := 1) (pc1 := 17) dX8_tellWritten_16 rfl rfl rfl ?_
      refine g_aload_n (i := 0) (pc1 := 18) dX8_tellWritten_17 rfl rfl rfl ?_
      refine g_get (pc1 := 21) dX8_tellWritten_18 rfl flX8_35 rfl rfl ?_
      refine g_iload_n (i := 1) (pc1 := 22) dX8_tellWritten_21 rfl rfl rfl ?_
      refine g_ialdJ (pc1 := 23) dX8_tellWritten_22 rfl rfl rfl (by omega) (by decide) ?_
      refine g_iastJ (pc1 := 24) dX8_tellWritten_23 rfl rfl rfl (by omega) (by decide) ?_
      refine g_iinc (pc1 := 27) dX8_tellWritten_24 rfl rfl rfl ?_
      refine g_goto (tgt := 2) dX8_tellWritten_27 (by decide) ?_
      refine aGo.eq (ih (upd t i (wf i)) (fun v hv => ?_)) ?_ rfl rfl
      · by_cases e : v = i
        · subst e; rw [pk_us]
        · rw [pk_un e]; exact ht v (by omega)
      · show [Value.ref 24, .int (nI i + Int32.ofInt 1)] = _
        rw [show nI i + Int32.ofInt 1 = nI (i + 1) from nI_1 i]
  exact aGo.eq (key T.1 (fun v h => absurd h (Nat.not_lt_zero v))) rfl rfl rfl
end
