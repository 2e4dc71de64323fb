/-! ===== the reference: told colours ===== -/
section
variable (σ : tSt) (x : Nat → aC) (N : tG) (Q : tQ) (F : tF) (W L T : tW) (V : tM) (P : fI)
theorem c_some {c : Nat} (hc : c < 30) : ∀ d, some c = some d → d < 30 := fun d q => by cases q; exact hc
theorem q_clashes (h : rSt σ N L T V P) : aRet 3 0 0 mX8_clashes [.ref 24] (rp x N Q F W L T V P) (rQ (spClashes σ) x) := by
  have hh := h
  obtain ⟨h1, h2, h3, h4, h5⟩ := h
  have hn := h1.1
  obtain ⟨g1, nr, ot⟩ := N
  obtain rfl : g1 = nI σ.1 := h2.1
  refine aRet.of (by decide) (Nat.le_of_ble_eq_true rfl) (a_ok2 rfl) ?_
  refine g_iconst (v := 0) (pc1 := 1) dX8_clashes_0 rfl (by decide) ?_
  refine g_istore_n (i := 1) (pc1 := 2) dX8_clashes_1 rfl rfl (Nat.le_of_ble_eq_true rfl) ?_
  refine g_iconst (v := 0) (pc1 := 3) dX8_clashes_2 rfl (by decide) ?_
  refine g_istore_n (i := 2) (pc1 := 4) dX8_clashes_3 rfl rfl (Nat.le_of_ble_eq_true rfl) ?_
  refine aGo.eq (ls' := [.ref 24, .int (nI (sumN (fun a => cnt (clQ σ.2.1 σ.2.2.2.2 a) σ.1) 0)), .int (nI 0), .null]) ?_ rfl rfl rfl
  refine down0 (P := fun a => aGo _ 4 [.ref 24, .int (nI (sumN (fun a => cnt (clQ σ.2.1 σ.2.2.2.2 a) σ.1) a)), .int (nI a), .null] [] (rp x (nI σ.1, nr, ot) Q F W L T V P) 0 0) σ.1 ?_ ?_
  · refine g_iload_n (i := 2) (pc1 := 5) dX8_clashes_4 rfl rfl rfl ?_
    refine g_aload_n (i := 0) (pc1 := 6) dX8_clashes_5 rfl rfl rfl ?_
    refine g_get (pc1 := 9) dX8_clashes_6 rfl flX8_50 rfl rfl ?_
    refine g_icmp_ge (pc1 := 12) (tgt := 77) dX8_clashes_9 rfl (by decide) (fun _ => ?_) (fun hbr9 => absurd (Int32.le_refl _) hbr9)
    refine g_iload_n (i := 1) (pc1 := 78) dX8_clashes_77 rfl rfl rfl ?_
    refine g_iret dX8_clashes_78 rfl rfl (Nat.le_of_ble_eq_true rfl) (Nat.le_of_ble_eq_true rfl) ?_
    exact rQ.mk rfl hh
  · intro a ha ih
    refine g_iload_n (i := 2) (pc1 := 5) dX8_clashes_4 rfl rfl rfl ?_
    refine g_aload_n (i := 0) (pc1 := 6) dX8_clashes_5 rfl rfl rfl ?_
    refine g_get (pc1 := 9) dX8_clashes_6 rfl flX8_50 rfl rfl ?_
    refine g_icmp_ge (pc1 := 12) (tgt := 77) dX8_clashes_9 rfl (by decide) (fun hbr9 => absurd hbr9 (fun c => absurd ((nI_leI (a := σ.1) (b := a) (by omega) (by omega)).mp c) (by omega))) (fun _ => ?_)
    refine g_iload_n (i := 2) (pc1 := 13) dX8_clashes_12 rfl rfl rfl ?_
    refine g_iconst (v := 1) (pc1 := 14) dX8_clashes_13 rfl (by decide) ?_
    refine g_iadd (pc1 := 15) dX8_clashes_14 rfl ?_
    refine g_istore_n (i := 3) (pc1 := 16) dX8_clashes_15 rfl rfl (Nat.le_of_ble_eq_true rfl) ?_
    have key : aGo (3, 0, 0, mX8_clashes, none, rQ (spClashes σ) x) 16 [.ref 24, .int (nI (sumN (fun a => cnt (clQ σ.2.1 σ.2.2.2.2 a) σ.1) a + cnt (clQ σ.2.1 σ.2.2.2.2 a) (a + 1 + 0))), .int (nI a), .int (nI (a + 1 + 0))] [] (rp x (nI σ.1, nr, ot) Q F W L T V P) 0 0 := by
      refine down0 (P := fun k => aGo _ 16 [.ref 24, .int (nI (sumN (fun a => cnt (clQ σ.2.1 σ.2.2.2.2 a) σ.1) a + cnt (clQ σ.2.1 σ.2.2.2.2 a) (a + 1 + k))), .int (nI a), .int (nI (a + 1 + k))] [] (rp x (nI σ.1, nr, ot) Q F W L T V P) 0 0) (σ.1 - (a + 1)) ?_ ?_
      · refine g_iload_n (i := 3) (pc1 := 17) dX8_clashes_16 rfl rfl rfl ?_
        refine g_aload_n (i := 0) (pc1 := 18) dX8_clashes_17 rfl rfl rfl ?_
        refine g_get (pc1 := 21) dX8_clashes_18 rfl flX8_50 rfl rfl ?_
        dsimp only
        rw [show a + 1 + (σ.1 - (a + 1)) = σ.1 by omega]
        refine g_icmp_ge (pc1 := 24) (tgt := 71) dX8_clashes_21 rfl (by decide) (fun _ => ?_) (fun hbr9 => absurd (Int32.le_refl _) hbr9)
        refine g_iinc (pc1 := 74) dX8_clashes_71 rfl rfl rfl ?_
        refine g_goto (tgt := 4) dX8_clashes_74 (by decide) ?_
        refine aGo.forget 3 ?_
        refine aGo.eq ih ?_ rfl rfl
        show [Value.ref 24, .int (nI (sumN (fun a => cnt (clQ σ.2.1 σ.2.2.2.2 a) σ.1) a + cnt (clQ σ.2.1 σ.2.2.2.2 a) σ.1)), .int (nI a + Int32.ofInt 1), .null] = _
        rw [show nI a + Int32.ofInt 1 = nI (a + 1) from nI_1 a]
        rfl
      · intro k hk ih2
        refine g_iload_n (i := 3) (pc1 := 17) dX8_clashes_16 rfl rfl rfl ?_
        refine g_aload_n (i := 0) (pc1 := 18) dX8_clashes_17 rfl rfl rfl ?_
        refine g_get (pc1 := 21) dX8_clashes_18 rfl flX8_50 rfl rfl ?_
        refine g_icmp_ge (pc1 := 24) (tgt := 71) dX8_clashes_21 rfl (by decide) (fun hbr9 => absurd hbr9 (fun c => absurd ((nI_leI (a := σ.1) (b := a + 1 + k) (by omega) (by omega)).mp c) (by omega))) (fun _ => ?_)
        refine g_iload_n (i := 1) (pc1 := 25) dX8_clashes_24 rfl rfl rfl ?_
        refine g_aload_n (i := 0) (pc1 := 26) dX8_clashes_25 rfl rfl rfl ?_
        refine g_iload_n (i := 2) (pc1 := 27) dX8_clashes_26 rfl rfl rfl ?_
        refine g_iload_n (i := 3) (pc1 := 28) dX8_clashes_27 rfl rfl rfl ?_
        refine g_V2 (M := mX8_isNear) (pc1 := 31) dX8_clashes_28 rfl lkX8_62 tmX8_isNear rfl (r_isNear x σ.1 nr ot Q F W L T V P h2 (a := a) (b := a + 1 + k) (by omega) (by omega)) (Nat.le_of_ble_eq_true rfl) rfl (Nat.le_of_ble_eq_true rfl) (Nat.le_of_ble_eq_true rfl) ?_
        rintro _ _ ⟨rfl, rfl⟩
        have fin : ∀ y : Bool, y = clQ σ.2.1 σ.2.2.2.2 a (a + 1 + k) → aGo (3, 0, 0, mX8_clashes, none, rQ (spClashes σ) x) 63 [.ref 24, .int (nI (sumN (fun a => cnt (clQ σ.2.1 σ.2.2.2.2 a) σ.1) a + cnt (clQ σ.2.1 σ.2.2.2.2 a) (a + 1 + k))), .int (nI a), .int (nI (a + 1 + k))] [.int (bI y), .int (nI (sumN (fun a => cnt (clQ σ.2.1 σ.2.2.2.2 a) σ.1) a + cnt (clQ σ.2.1 σ.2.2.2.2 a) (a + 1 + k)))] (rp x (nI σ.1, nr, ot) Q F W L T V P) 0 0 := by
          intro y hy
          refine g_iadd (pc1 := 64) dX8_clashes_63 rfl ?_
          refine g_istore_n (i := 1) (pc1 := 65) dX8_clashes_64 rfl rfl (Nat.le_of_ble_eq_true rfl) ?_
          refine g_iinc (pc1 := 68) dX8_clashes_65 rfl rfl rfl ?_
          refine g_goto (tgt := 16) dX8_clashes_68 (by decide) ?_
          refine aGo.eq ih2 ?_ rfl rfl
          show [Value.ref 24, .int (nI (sumN (fun a => cnt (clQ σ.2.1 σ.2.2.2.2 a) σ.1) a + cnt (clQ σ.2.1 σ.2.2.2.2 a) (a + 1 + k)) + bI y), .int (nI a), .int (nI (a + 1 + k) + Int32.ofInt 1)] = _
          rw [show nI (a + 1 + k) + Int32.ofInt 1 = nI (a + 1 + (k + 1)) from nI_1 _, hy]
          have e : cnt (clQ σ.2.1 σ.2.2.2.2 a) (a + 1 + (k + 1)) = cnt (clQ σ.2.1 σ.2.2.2.2 a) (a + 1 + k) + (if clQ σ.2.1 σ.2.2.2.2 a (a + 1 + k) then 1 else 0) := rfl
          rw [e]
          cases clQ σ.2.1 σ.2.2.2.2 a (a + 1 + k) with
          | true => rw [if_pos rfl, show bI true = (1 : Int32) from rfl, nI_1, Nat.add_assoc]
          | false => rw [if_neg (by decide), show bI false = nI 0 from rfl, nI_add]; rfl
        have hlt : decide (a < a + 1 + k) = true := decide_eq_true (by omega)
        refine g_if_eq (pc1 := 34) (tgt := 62) dX8_clashes_31 rfl (by decide) (fun c1 => ?_) (fun c1 => ?_)
        · rw [bI_eq0] at c1
          refine g_iconst (v := 0) (pc1 := 63) dX8_clashes_62 rfl (by decide) ?_
          exact fin false (by unfold clQ; rw [c1, hlt]; rfl)
        · rw [bI_ne0] at c1
          refine g_aload_n (i := 0) (pc1 := 35) dX8_clashes_34 rfl rfl rfl ?_
          refine g_get (pc1 := 38) dX8_clashes_35 rfl flX8_23 rfl rfl ?_
          refine g_iload_n (i := 2) (pc1 := 39) dX8_clashes_38 rfl rfl rfl ?_
          refine g_ialdJ (pc1 := 40) dX8_clashes_39 rfl rfl rfl (by omega) (by decide) ?_
          rw [(h5 a (by omega)).1]
          refine g_if_lt (pc1 := 43) (tgt := 62) dX8_clashes_40 rfl (by decide) (fun c2 => ?_) (fun c2 => ?_)
          · have c2' := (enO_neg (h5 a (by omega)).2).mp c2
            refine g_iconst (v := 0) (pc1 := 63) dX8_clashes_62 rfl (by decide) ?_
            exact fin false (by unfold clQ; rw [c1, hlt, c2']; rfl)
          · have hsm : (σ.2.2.2.2 a).isSome = true := by
              cases hc : σ.2.2.2.2 a with
              | none => exact absurd ((enO_neg (h5 a (by omega)).2).mpr hc) c2
              | some d => rfl
            refine g_aload_n (i := 0) (pc1 := 44) dX8_clashes_43 rfl rfl rfl ?_
            refine g_get (pc1 := 47) dX8_clashes_44 rfl flX8_23 rfl rfl ?_
            refine g_iload_n (i := 2) (pc1 := 48) dX8_clashes_47 rfl rfl rfl ?_
            refine g_ialdJ (pc1 := 49) dX8_clashes_48 rfl rfl rfl (by omega) (by decide) ?_
            refine g_aload_n (i := 0) (pc1 := 50) dX8_clashes_49 rfl rfl rfl ?_
            refine g_get (pc1 := 53) dX8_clashes_50 rfl flX8_23 rfl rfl ?_
            refine g_iload_n (i := 3) (pc1 := 54) dX8_clashes_53 rfl rfl rfl ?_
            refine g_ialdJ (pc1 := 55) dX8_clashes_54 rfl rfl rfl (by omega) (by decide) ?_
            rw [(h5 a (by omega)).1, (h5 (a + 1 + k) (by omega)).1]
            have hi := enO_inj (h5 a (by omega)).2 (h5 (a + 1 + k) (by omega)).2
            refine g_icmp_ne (pc1 := 58) (tgt := 62) dX8_clashes_55 rfl (by decide) (fun c3 => ?_) (fun c3 => ?_)
            · refine g_iconst (v := 0) (pc1 := 63) dX8_clashes_62 rfl (by decide) ?_
              exact fin false (by unfold clQ; rw [c1, hlt, hsm, decide_eq_false (fun q => c3 (hi.mpr q))]; rfl)
            · refine g_iconst (v := 1) (pc1 := 59) dX8_clashes_58 rfl (by decide) ?_
              refine g_goto (tgt := 63) dX8_clashes_59 (by decide) ?_
              exact fin true (by unfold clQ; rw [c1, hlt, hsm, decide_eq_true (hi.mp c3)]; rfl)
    refine aGo.eq key ?_ rfl rfl
    show [Value.ref 24, .int (nI (sumN (fun a => cnt (clQ σ.2.1 σ.2.2.2.2 a) σ.1) a)), .int (nI a), .int (nI a + 1)] = _
    have e0 : cnt (clQ σ.2.1 σ.2.2.2.2 a) (a + 1 + 0) = 0 := cnt_zero fun i hi => by unfold clQ; rw [decide_eq_false (by omega)]; rfl
    rw [e0, show nI a + 1 = nI (a + 1 + 0) from nI_1 a]
    rfl
theorem amg_30 {n : Nat} {pc : tCol} (hn : n ≤ 30) (hP : ∀ v, v < 30 → ∀ c, pc v = some c → c < 30) (p : Nat → Bool) : cnt (amgS n pc p) 32 = cnt (amgS n pc p) 30 := by
  refine cnt_more (by decide) fun c hc _ => ex_false.mpr fun v hv => ?_
  rw [decide_eq_false (fun q => by have := hP v (by omega) c q; omega)]
  simp
theorem q_used (h : rSt σ N L T V P) : aRet 3 0 0 mX8_used [.ref 24] (rp x N Q F W L T V P) (rQ (spUsed σ) x) := by
  have hh := h
  obtain ⟨h1, h2, h3, h4, h5⟩ := h
  have hn := h1.1
  obtain ⟨g1, nr, ot⟩ := N
  obtain rfl : g1 = nI σ.1 := h2.1
  have hsp : spUsed σ = (nI (cnt (fun c => ex (fun v => decide (σ.2.2.2.2 v = some c)) σ.1) 30), σ) := by
    unfold spUsed
    rw [amg_30 hn (fun v hv => (h5 v hv).2), cnt_congr (p := amgS σ.1 σ.2.2.2.2 (fun i => decide (i < σ.1))) (q := fun c => ex (fun v => decide (σ.2.2.2.2 v = some c)) σ.1) (fun c _ => ex_congr fun v hv => by simp [hv])]
  rw [hsp]
  refine aRet.of (by decide) (Nat.le_of_ble_eq_true rfl) (a_ok2 rfl) ?_
  refine g_iconst (v := 0) (pc1 := 1) dX8_used_0 rfl (by decide) ?_
  refine g_istore_n (i := 1) (pc1 := 2) dX8_used_1 rfl rfl (Nat.le_of_ble_eq_true rfl) ?_
  refine g_iconst (v := 0) (pc1 := 3) dX8_used_2 rfl (by decide) ?_
  refine g_istore_n (i := 2) (pc1 := 4) dX8_used_3 rfl rfl (Nat.le_of_ble_eq_true rfl) ?_
  refine down0 (P := fun c => aGo _ 4 [.ref 24, .int (nI (cnt (fun c => ex (fun v => decide (σ.2.2.2.2 v = some c)) σ.1) c)), .int (nI c), .null, .null] [] (rp x (nI σ.1, nr, ot) Q F W L T V P) 0 0) 30 ?_ ?_
  · refine g_iload_n (i := 2) (pc1 := 5) dX8_used_4 rfl rfl rfl ?_
    refine g_bipush (v := 30) (pc1 := 7) dX8_used_5 rfl (by decide) ?_
    refine g_icmp_ge (pc1 := 10) (tgt := 69) dX8_used_7 rfl (by decide) (fun _ => ?_) (fun hbr9 => absurd (by decide) hbr9)
    refine g_iload_n (i := 1) (pc1 := 70) dX8_used_69 rfl rfl rfl ?_
    refine g_iret dX8_used_70 rfl rfl (Nat.le_of_ble_eq_true rfl) (Nat.le_of_ble_eq_true rfl) ?_
    exact rQ.mk rfl hh
  · intro c hc ih
    refine g_iload_n (i := 2) (pc1 := 5) dX8_used_4 rfl rfl rfl ?_
    refine g_bipush (v := 30) (pc1 := 7) dX8_used_5 rfl (by decide) ?_
    refine g_icmp_ge (pc1 := 10) (tgt := 69) dX8_used_7 rfl (by decide) (fun hbr9 => absurd hbr9 (fun q => absurd ((nI_leI (a := 30) (b := c) (by omega) (by omega)).mp q) (by omega))) (fun _ => ?_)
    refine g_iconst (v := 0) (pc1 := 11) dX8_used_10 rfl (by decide) ?_
    refine g_istore_n (i := 3) (pc1 := 12) dX8_used_11 rfl rfl (Nat.le_of_ble_eq_true rfl) ?_
    refine g_iconst (v := 0) (pc1 := 13) dX8_used_12 rfl (by decide) ?_
    refine g_istore (pc1 := 15) dX8_used_13 rfl (Nat.le_of_ble_eq_true rfl) ?_
    have key : aGo (3, 0, 0, mX8_used, none, rQ (nI (cnt (fun c => ex (fun v => decide (σ.2.2.2.2 v = some c)) σ.1) 30), σ) x) 15 [.ref 24, .int (nI (cnt (fun c => ex (fun v => decide (σ.2.2.2.2 v = some c)) σ.1) c)), .int (nI c), .int (bI (ex (fun v => decide (σ.2.2.2.2 v = some c)) 0)), .int (nI 0)] [] (rp x (nI σ.1, nr, ot) Q F W L T V P) 0 0 := by
      refine down0 (P := fun v => aGo _ 15 [.ref 24, .int (nI (cnt (fun c => ex (fun v => decide (σ.2.2.2.2 v = some c)) σ.1) c)), .int (nI c), .int (bI (ex (fun v => decide (σ.2.2.2.2 v = some c)) v)), .int (nI v)] [] (rp x (nI σ.1, nr, ot) Q F W L T V P) 0 0) σ.1 ?_ ?_
      · refine g_iload (pc1 := 17) dX8_used_15 rfl rfl ?_
        refine g_aload_n (i := 0) (pc1 := 18) dX8_used_17 rfl rfl rfl ?_
        refine g_get (pc1 := 21) dX8_used_18 rfl flX8_50 rfl rfl ?_
        refine g_icmp_ge (pc1 := 24) (tgt := 51) dX8_used_21 rfl (by decide) (fun _ => ?_) (fun hbr9 => absurd (Int32.le_refl _) hbr9)
        have e : cnt (fun c => ex (fun v => decide (σ.2.2.2.2 v = some c)) σ.1) (c + 1) = cnt (fun c => ex (fun v => decide (σ.2.2.2.2 v = some c)) σ.1) c + (if ex (fun v => decide (σ.2.2.2.2 v = some c)) σ.1 then 1 else 0) := rfl
        have fin : ∀ y : Bool, y = ex (fun v => decide (σ.2.2.2.2 v = some c)) σ.1 → ∀ a b, aGo (3, 0, 0, mX8_used, none, rQ (nI (cnt (fun c => ex (fun v => decide (σ.2.2.2.2 v = some c)) σ.1) 30), σ) x) 61 [.ref 24, .int (nI (cnt (fun c => ex (fun v => decide (σ.2.2.2.2 v = some c)) σ.1) c)), .int (nI c), .int a, .int b] [.int (bI y), .int (nI (cnt (fun c => ex (fun v => decide (σ.2.2.2.2 v = some c)) σ.1) c))] (rp x (nI σ.1, nr, ot) Q F W L T V P) 0 0 := by
          intro y hy a b
          refine g_iadd (pc1 := 62) dX8_used_61 rfl ?_
          refine g_istore_n (i := 1) (pc1 := 63) dX8_used_62 rfl rfl (Nat.le_of_ble_eq_true rfl) ?_
          refine g_iinc (pc1 := 66) dX8_used_63 rfl rfl rfl ?_
          refine g_goto (tgt := 4) dX8_used_66 (by decide) ?_
          refine aGo.forget 3 (aGo.forget 4 ?_)
          refine aGo.eq ih ?_ rfl rfl
          show [Value.ref 24, .int (nI (cnt (fun c => ex (fun v => decide (σ.2.2.2.2 v = some c)) σ.1) c) + bI y), .int (nI c + Int32.ofInt 1), .null, .null] = _
          rw [show nI c + Int32.ofInt 1 = nI (c + 1) from nI_1 c, e, ← hy]
          cases y with
          | true => rw [if_pos rfl, show bI true = (1 : Int32) from rfl, nI_1]
          | false => rw [if_neg (by decide), show bI false = nI 0 from rfl, nI_add]
        refine g_iload_n (i := 1) (pc1 := 52) dX8_used_51 rfl rfl rfl ?_
        refine g_iload_n (i := 3) (pc1 := 53) dX8_used_52 rfl rfl rfl ?_
        refine g_if_eq (pc1 := 56) (tgt := 60) dX8_used_53 rfl (by decide) (fun c1 => ?_) (fun c1 => ?_)
        · rw [bI_eq0] at c1
          refine g_iconst (v := 0) (pc1 := 61) dX8_used_60 rfl (by decide) ?_
          exact fin false c1.symm _ _
        · rw [bI_ne0] at c1
          refine g_iconst (v := 1) (pc1 := 57) dX8_used_56 rfl (by decide) ?_
          refine g_goto (tgt := 61) dX8_used_57 (by decide) ?_
          exact fin true c1.symm _ _
      · intro v hv ih2
        refine g_iload (pc1 := 17) dX8_used_15 rfl rfl ?_
        refine g_aload_n (i := 0) (pc1 := 18) dX8_used_17 rfl rfl rfl ?_
        refine g_get (pc1 := 21) dX8_used_18 rfl flX8_50 rfl rfl ?_
        refine g_icmp_ge (pc1 := 24) (tgt := 51) dX8_used_21 rfl (by decide) (fun hbr9 => absurd hbr9 (fun q => absurd ((nI_leI (a := σ.1) (b := v) (by omega) (by omega)).mp q) (by omega))) (fun _ => ?_)
        have e : ex (fun v => decide (σ.2.2.2.2 v = some c)) (v + 1) = (ex (fun v => decide (σ.2.2.2.2 v = some c)) v || decide (σ.2.2.2.2 v = some c)) := rfl
        have fin : ∀ y : Bool, y = ex (fun v => decide (σ.2.2.2.2 v = some c)) (v + 1) → ∀ a, aGo (3, 0, 0, mX8_used, none, rQ (nI (cnt (fun c => ex (fun v => decide (σ.2.2.2.2 v = some c)) σ.1) 30), σ) x) 44 [.ref 24, .int (nI (cnt (fun c => ex (fun v => decide (σ.2.2.2.2 v = some c)) σ.1) c)), .int (nI c), .int a, .int (nI v)] [.int (bI y)] (rp x (nI σ.1, nr, ot) Q F W L T V P) 0 0 := by
          intro y hy a
          refine g_istore_n (i := 3) (pc1 := 45) dX8_used_44 rfl rfl (Nat.le_of_ble_eq_true rfl) ?_
          refine g_iinc (pc1 := 48) dX8_used_45 rfl rfl rfl ?_
          refine g_goto (tgt := 15) dX8_used_48 (by decide) ?_
          refine aGo.eq ih2 ?_ rfl rfl
          show [Value.ref 24, .int (nI (cnt (fun c => ex (fun v => decide (σ.2.2.2.2 v = some c)) σ.1) c)), .int (nI c), .int (bI y), .int (nI v + Int32.ofInt 1)] = _
          rw [show nI v + Int32.ofInt 1 = nI (v + 1) from nI_1 v, hy]
        refine g_iload_n (i := 3) (pc1 := 25) dX8_used_24 rfl rfl rfl ?_
        refine g_if_ne (pc1 := 28) (tgt := 39) dX8_used_25 rfl (by decide) (fun c1 => ?_) (fun c1 => ?_)
        · rw [bI_ne0] at c1
          refine g_iconst (v := 1) (pc1 := 40) dX8_used_39 rfl (by decide) ?_
          refine g_goto (tgt := 44) dX8_used_40 (by decide) ?_
          exact fin true (by rw [e, c1]; rfl) _
        · have c1' : ex (fun v => decide (σ.2.2.2.2 v = some c)) v = false := by
            cases hx : ex (fun v => decide (σ.2.2.2.2 v = some c)) v with
            | false => rfl
            | true => exact absurd c1 ((bI_ne0 _).mpr hx)
          refine g_aload_n (i := 0) (pc1 := 29) dX8_used_28 rfl rfl rfl ?_
          refine g_get (pc1 := 32) dX8_used_29 rfl flX8_23 rfl rfl ?_
          refine g_iload (pc1 := 34) dX8_used_32 rfl rfl ?_
          refine g_ialdJ (pc1 := 35) dX8_used_34 rfl rfl rfl (by omega) (by decide) ?_
          refine g_iload_n (i := 2) (pc1 := 36) dX8_used_35 rfl rfl rfl ?_
          have hi := h5.inj (v := v) (by omega) (c_some hc)
          refine g_icmp_ne (pc1 := 39) (tgt := 43) dX8_used_36 rfl (by decide) (fun c2 => ?_) (fun c2 => ?_)
          · refine g_iconst (v := 0) (pc1 := 44) dX8_used_43 rfl (by decide) ?_
            exact fin false (by rw [e, c1', decide_eq_false (fun q => c2 (hi.mpr q))]; rfl) _
          · refine g_iconst (v := 1) (pc1 := 40) dX8_used_39 rfl (by decide) ?_
            refine g_goto (tgt := 44) dX8_used_40 (by decide) ?_
            exact fin true (by rw [e, decide_eq_true (hi.mp c2)]; simp) _
    exact aGo.eq key rfl rfl rfl
theorem q_saturation (h : rSt σ N L T V P) (y : Int32) : aRet 3 0 0 mX8_saturation [.ref 24, .int y] (rp x N Q F W L T V P) (rQ (spSat y σ) x) := by
  have hh := h
  obtain ⟨h1, h2, h3, h4, h5⟩ := h
  have hn := h1.1
  obtain ⟨g1, nr, ot⟩ := N
  obtain rfl : g1 = nI σ.1 := h2.1
  refine aRet.of (by decide) (Nat.le_of_ble_eq_true rfl) (a_ok2 rfl) ?_
  refine g_aload_n (i := 0) (pc1 := 1) dX8_saturation_0 rfl rfl rfl ?_
  refine g_iload_n (i := 1) (pc1 := 2) dX8_saturation_1 rfl rfl rfl ?_
  refine g_V1 (M := mX8_isVertex) (pc1 := 5) dX8_saturation_2 rfl lkX8_58 tmX8_isVertex rfl (r_isVertex x σ.1 nr ot Q F W L T V P y) (Nat.le_of_ble_eq_true rfl) rfl (Nat.le_of_ble_eq_true rfl) (Nat.le_of_ble_eq_true rfl) ?_
  rintro _ _ ⟨rfl, rfl⟩
  refine g_if_ne (pc1 := 8) (tgt := 10) dX8_saturation_5 rfl (by decide) (fun c1 => ?_) (fun c1 => ?_)
  · rw [bI_ne0] at c1
    obtain ⟨u, hu, rfl⟩ := (vtx_iff hn).mp c1
    have hsp : spSat (nI u) σ = (nI (cnt (amgS σ.1 σ.2.2.2.2 (σ.2.1 u)) 30), σ) := by
      unfold spSat
      rw [if_pos c1, nI_clamp (by omega), amg_30 hn (fun v hv => (h5 v hv).2)]
    rw [hsp]
    refine g_iconst (v := 0) (pc1 := 11) dX8_saturation_10 rfl (by decide) ?_
    refine g_istore_n (i := 2) (pc1 := 12) dX8_saturation_11 rfl rfl (Nat.le_of_ble_eq_true rfl) ?_
    refine g_iconst (v := 0) (pc1 := 13) dX8_saturation_12 rfl (by decide) ?_
    refine g_istore_n (i := 3) (pc1 := 14) dX8_saturation_13 rfl rfl (Nat.le_of_ble_eq_true rfl) ?_
    refine down0 (P := fun c => aGo _ 14 [.ref 24, .int (nI u), .int (nI (cnt (amgS σ.1 σ.2.2.2.2 (σ.2.1 u)) c)), .int (nI c), .null, .null] [] (rp x (nI σ.1, nr, ot) Q F W L T V P) 0 0) 30 ?_ ?_
    · refine g_iload_n (i := 3) (pc1 := 15) dX8_saturation_14 rfl rfl rfl ?_
      refine g_bipush (v := 30) (pc1 := 17) dX8_saturation_15 rfl (by decide) ?_
      refine g_icmp_ge (pc1 := 20) (tgt := 93) dX8_saturation_17 rfl (by decide) (fun _ => ?_) (fun hbr9 => absurd (by decide) hbr9)
      refine g_iload_n (i := 2) (pc1 := 94) dX8_saturation_93 rfl rfl rfl ?_
      refine g_iret dX8_saturation_94 rfl rfl (Nat.le_of_ble_eq_true rfl) (Nat.le_of_ble_eq_true rfl) ?_
      exact rQ.mk rfl hh
    · intro c hc ih
      refine g_iload_n (i := 3) (pc1 := 15) dX8_saturation_14 rfl rfl rfl ?_
      refine g_bipush (v := 30) (pc1 := 17) dX8_saturation_15 rfl (by decide) ?_
      refine g_icmp_ge (pc1 := 20) (tgt := 93) dX8_saturation_17 rfl (by decide) (fun hbr9 => absurd hbr9 (fun q => absurd ((nI_leI (a := 30) (b := c) (by omega) (by omega)).mp q) (by omega))) (fun _ => ?_)
      refine g_iconst (v := 0) (pc1 := 21) dX8_saturation_20 rfl (by decide) ?_
      refine g_istore (pc1 := 23) dX8_saturation_21 rfl (Nat.le_of_ble_eq_true rfl) ?_
      refine g_iconst (v := 0) (pc1 := 24) dX8_saturation_23 rfl (by decide) ?_
      refine g_istore (pc1 := 26) dX8_saturation_24 rfl (Nat.le_of_ble_eq_true rfl) ?_
      have key : aGo (3, 0, 0, mX8_saturation, none, rQ (nI (cnt (amgS σ.1 σ.2.2.2.2 (σ.2.1 u)) 30), σ) x) 26 [.ref 24, .int (nI u), .int (nI (cnt (amgS σ.1 σ.2.2.2.2 (σ.2.1 u)) c)), .int (nI c), .int (bI (ex (fun v => σ.2.1 u v && decide (σ.2.2.2.2 v = some c)) 0)), .int (nI 0)] [] (rp x (nI σ.1, nr, ot) Q F W L T V P) 0 0 := by
        refine down0 (P := fun v => aGo _ 26 [.ref 24, .int (nI u), .int (nI (cnt (amgS σ.1 σ.2.2.2.2 (σ.2.1 u)) c)), .int (nI c), .int (bI (ex (fun v => σ.2.1 u v && decide (σ.2.2.2.2 v = some c)) v)), .int (nI v)] [] (rp x (nI σ.1, nr, ot) Q F W L T V P) 0 0) σ.1 ?_ ?_
        · refine g_iload (pc1 := 28) dX8_saturation_26 rfl rfl ?_
          refine g_aload_n (i := 0) (pc1 := 29) dX8_saturation_28 rfl rfl rfl ?_
          refine g_get (pc1 := 32) dX8_saturation_29 rfl flX8_50 rfl rfl ?_
          refine g_icmp_ge (pc1 := 35) (tgt := 74) dX8_saturation_32 rfl (by decide) (fun _ => ?_) (fun hbr9 => absurd (Int32.le_refl _) hbr9)
          have e : cnt (amgS σ.1 σ.2.2.2.2 (σ.2.1 u)) (c + 1) = cnt (amgS σ.1 σ.2.2.2.2 (σ.2.1 u)) c + (if ex (fun v => σ.2.1 u v && decide (σ.2.2.2.2 v = some c)) σ.1 then 1 else 0) := rfl
          have fin : ∀ y : Bool, y = ex (fun v => σ.2.1 u v && decide (σ.2.2.2.2 v = some c)) σ.1 → ∀ a b, aGo (3, 0, 0, mX8_saturation, none, rQ (nI (cnt (amgS σ.1 σ.2.2.2.2 (σ.2.1 u)) 30), σ) x) 85 [.ref 24, .int (nI u), .int (nI (cnt (amgS σ.1 σ.2.2.2.2 (σ.2.1 u)) c)), .int (nI c), .int a, .int b] [.int (bI y), .int (nI (cnt (amgS σ.1 σ.2.2.2.2 (σ.2.1 u)) c))] (rp x (nI σ.1, nr, ot) Q F W L T V P) 0 0 := by
            intro y hy a b
            refine g_iadd (pc1 := 86) dX8_saturation_85 rfl ?_
            refine g_istore_n (i := 2) (pc1 := 87) dX8_saturation_86 rfl rfl (Nat.le_of_ble_eq_true rfl) ?_
            refine g_iinc (pc1 := 90) dX8_saturation_87 rfl rfl rfl ?_
            refine g_goto (tgt := 14) dX8_saturation_90 (by decide) ?_
            refine aGo.forget 4 (aGo.forget 5 ?_)
            refine aGo.eq ih ?_ rfl rfl
            show [Value.ref 24, .int (nI u), .int (nI (cnt (amgS σ.1 σ.2.2.2.2 (σ.2.1 u)) c) + bI y), .int (nI c + Int32.ofInt 1), .null, .null] = _
            rw [show nI c + Int32.ofInt 1 = nI (c + 1) from nI_1 c, e, ← hy]
            cases y with
            | true => rw [if_pos rfl, show bI true = (1 : Int32) from rfl, nI_1]
            | false => rw [if_neg (by decide), show bI false = nI 0 from rfl, nI_add]
          refine g_iload_n (i := 2) (pc1 := 75) dX8_saturation_74 rfl rfl rfl ?_
          refine g_iload (pc1 := 77) dX8_saturation_75 rfl rfl ?_
          refine g_if_eq (pc1 := 80) (tgt := 84) dX8_saturation_77 rfl (by decide) (fun c1 => ?_) (fun c1 => ?_)
          · rw [bI_eq0] at c1
            refine g_iconst (v := 0) (pc1 := 85) dX8_saturation_84 rfl (by decide) ?_
            exact fin false c1.symm _ _
          · rw [bI_ne0] at c1
            refine g_iconst (v := 1) (pc1 := 81) dX8_saturation_80 rfl (by decide) ?_
            refine g_goto (tgt := 85) dX8_saturation_81 (by decide) ?_
            exact fin true c1.symm _ _
        · intro v hv ih2
          refine g_iload (pc1 := 28) dX8_saturation_26 rfl rfl ?_
          refine g_aload_n (i := 0) (pc1 := 29) dX8_saturation_28 rfl rfl rfl ?_
          refine g_get (pc1 := 32) dX8_saturation_29 rfl flX8_50 rfl rfl ?_
          refine g_icmp_ge (pc1 := 35) (tgt := 74) dX8_saturation_32 rfl (by decide) (fun hbr9 => absurd hbr9 (fun q => absurd ((nI_leI (a := σ.1) (b := v) (by omega) (by omega)).mp q) (by omega))) (fun _ => ?_)
          have e : ex (fun v => σ.2.1 u v && decide (σ.2.2.2.2 v = some c)) (v + 1) = (ex (fun v => σ.2.1 u v && decide (σ.2.2.2.2 v = some c)) v || (σ.2.1 u v && decide (σ.2.2.2.2 v = some c))) := rfl
          have fin : ∀ y : Bool, y = ex (fun v => σ.2.1 u v && decide (σ.2.2.2.2 v = some c)) (v + 1) → ∀ a, aGo (3, 0, 0, mX8_saturation, none, rQ (nI (cnt (amgS σ.1 σ.2.2.2.2 (σ.2.1 u)) 30), σ) x) 66 [.ref 24, .int (nI u), .int (nI (cnt (amgS σ.1 σ.2.2.2.2 (σ.2.1 u)) c)), .int (nI c), .int a, .int (nI v)] [.int (bI y)] (rp x (nI σ.1, nr, ot) Q F W L T V P) 0 0 := by
            intro y hy a
            refine g_istore (pc1 := 68) dX8_saturation_66 rfl (Nat.le_of_ble_eq_true rfl) ?_
            refine g_iinc (pc1 := 71) dX8_saturation_68 rfl rfl rfl ?_
            refine g_goto (tgt := 26) dX8_saturation_71 (by decide) ?_
            refine aGo.eq ih2 ?_ rfl rfl
            show [Value.ref 24, .int (nI u), .int (nI (cnt (amgS σ.1 σ.2.2.2.2 (σ.2.1 u)) c)), .int (nI c), .int (bI y), .int (nI v + Int32.ofInt 1)] = _
            rw [show nI v + Int32.ofInt 1 = nI (v + 1) from nI_1 v, hy]
          refine g_iload (pc1 := 37) dX8_saturation_35 rfl rfl ?_
          refine g_if_ne (pc1 := 40) (tgt := 61) dX8_saturation_37 rfl (by decide) (fun c1 => ?_) (fun c1 => ?_)
          · rw [bI_ne0] at c1
            refine g_iconst (v := 1) (pc1 := 62) dX8_saturation_61 rfl (by decide) ?_
            refine g_goto (tgt := 66) dX8_saturation_62 (by decide) ?_
            exact fin true (by rw [e, c1]; rfl) _
          · have c1' : ex (fun v => σ.2.1 u v && decide (σ.2.2.2.2 v = some c)) v = false := by
              cases hx : ex (fun v => σ.2.1 u v && decide (σ.2.2.2.2 v = some c)) v with
              | false => rfl
              | true => exact absurd c1 ((bI_ne0 _).mpr hx)
            refine g_aload_n (i := 0) (pc1 := 41) dX8_saturation_40 rfl rfl rfl ?_
            refine g_iload_n (i := 1) (pc1 := 42) dX8_saturation_41 rfl rfl rfl ?_
            refine g_iload (pc1 := 44) dX8_saturation_42 rfl rfl ?_
            refine g_V2 (M := mX8_isNear) (pc1 := 47) dX8_saturation_44 rfl lkX8_62 tmX8_isNear rfl (r_isNear x σ.1 nr ot Q F W L T V P h2 (a := u) (b := v) (by omega) (by omega)) (Nat.le_of_ble_eq_true rfl) rfl (Nat.le_of_ble_eq_true rfl) (Nat.le_of_ble_eq_true rfl) ?_
            rintro _ _ ⟨rfl, rfl⟩
            refine g_if_eq (pc1 := 50) (tgt := 65) dX8_saturation_47 rfl (by decide) (fun c3 => ?_) (fun c3 => ?_)
            · rw [bI_eq0] at c3
              refine g_iconst (v := 0) (pc1 := 66) dX8_saturation_65 rfl (by decide) ?_
              exact fin false (by rw [e, c1', c3]; rfl) _
            · rw [bI_ne0] at c3
              refine g_aload_n (i := 0) (pc1 := 51) dX8_saturation_50 rfl rfl rfl ?_
              refine g_get (pc1 := 54) dX8_saturation_51 rfl flX8_23 rfl rfl ?_
              refine g_iload (pc1 := 56) dX8_saturation_54 rfl rfl ?_
              refine g_ialdJ (pc1 := 57) dX8_saturation_56 rfl rfl rfl (by omega) (by decide) ?_
              refine g_iload_n (i := 3) (pc1 := 58) dX8_saturation_57 rfl rfl rfl ?_
              have hi := h5.inj (v := v) (by omega) (c_some hc)
              refine g_icmp_ne (pc1 := 61) (tgt := 65) dX8_saturation_58 rfl (by decide) (fun c2 => ?_) (fun c2 => ?_)
              · refine g_iconst (v := 0) (pc1 := 66) dX8_saturation_65 rfl (by decide) ?_
                exact fin false (by rw [e, c1', decide_eq_false (fun q => c2 (hi.mpr q))]; simp) _
              · refine g_iconst (v := 1) (pc1 := 62) dX8_saturation_61 rfl (by decide) ?_
                refine g_goto (tgt := 66) dX8_saturation_62 (by decide) ?_
                exact fin true (by rw [e, decide_eq_true (hi.mp c2), c3]; simp) _
      exact aGo.eq key rfl rfl rfl
  · rw [bI_eq0] at c1
    refine g_iconst (v := (-1)) (pc1 := 9) dX8_saturation_8 rfl (by decide) ?_
    refine g_iret dX8_saturation_9 rfl rfl (Nat.le_of_ble_eq_true rfl) (Nat.le_of_ble_eq_true rfl) ?_
    exact rQ.mk (by unfold spSat; rw [c1]; rfl) hh
end
