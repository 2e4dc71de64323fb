/-! ===== the logs of the class ===== -/
abbrev tLog : Type := List (Int32 × Int32)
def lC (L : tL) (lg : tLog) : Prop := L.1 = nI lg.length ∧ lg.length ≤ 3000 ∧ ∀ i a b, lg[i]? = some (a, b) → L.2.1 i = a ∧ L.2.2 i = b
theorem lC.app {s : Int32} {f g : fI} {lg : tLog} (h : lC (s, f, g) lg) (hl : lg.length < 3000) (op x : Int32) : lC (nI (lg.length + 1), upd f lg.length op, upd g lg.length x) (lg ++ [(op, x)]) := by
  refine ⟨by rw [List.length_append]; rfl, by rw [List.length_append]; simp; omega, fun i a b hi => ?_⟩
  show upd f lg.length op i = a ∧ upd g lg.length x i = b
  by_cases h1 : i < lg.length
  · rw [List.getElem?_append_left h1] at hi
    rw [pk_un (by omega), pk_un (by omega)]
    exact h.2.2 i a b hi
  · rw [List.getElem?_append_right (by omega)] at hi
    have h2 : i - lg.length < 1 := (List.getElem?_eq_some_iff.mp hi).1
    have h3 : i = lg.length := by omega
    subst h3
    rw [Nat.sub_self] at hi
    cases hi
    exact ⟨pk_us, pk_us⟩
theorem nI_0' : (0 : Int32) = nI 0 := rfl
theorem hol_iff {i : Int32} {m : Nat} (hm : m < 2 ^ 31) : (0 ≤ i ∧ i < nI m) ↔ ∃ j, j < m ∧ i = nI j := by
  constructor
  · rintro ⟨h1, h2⟩
    obtain ⟨j, hj, rfl⟩ := nI_of (x := i) (Int32.not_lt.mpr h1)
    exact ⟨j, (nI_ltI hj hm).mp h2, rfl⟩
  · rintro ⟨j, hj, rfl⟩
    exact ⟨nI_pos' (by omega), (nI_ltI (by omega) hm).mpr hj⟩
/-- what part() answers -/
def prt (lg : tLog) (i w : Int32) : Int32 := if 0 ≤ i ∧ i < nI lg.length then (if w = 0 then (lg.getD i.toNatClampNeg (0, 0)).1 else if w = 1 then (lg.getD i.toNatClampNeg (0, 0)).2 else -1) else -1
section
variable (G : tG) (K : tK) (S : tS) (L1 : tL) (U : tU) (L2 L3 : tL) (C : Int32 × Int32) (P : fI) (r : List aC)
theorem c_holds9 {lg : tLog} (hL : lC L1 lg) (i : Int32) : aRet 0 0 0 mX3_holds [.ref 9, .int i] (cp G K S L1 U L2 L3 C P r) (fun v g => v = some (.int (bI (decide (0 ≤ i ∧ i < nI lg.length)))) ∧ g = cp G K S L1 U L2 L3 C P r) := by
  refine aRet.of (by decide) (Nat.le_of_ble_eq_true rfl) (a_ok2 rfl) ?_
  refine g_iload_n (i := 1) (pc1 := 1) dX3_holds_0 rfl rfl rfl ?_
  refine g_if_lt (pc1 := 4) (tgt := 16) dX3_holds_1 rfl (by decide) (fun c => ?_) (fun c => ?_)
  · refine g_iconst (v := 0) (pc1 := 17) dX3_holds_16 rfl (by decide) ?_
    refine g_iret dX3_holds_17 rfl rfl (Nat.le_of_ble_eq_true rfl) (Nat.le_of_ble_eq_true rfl) ?_
    exact ⟨by rw [decide_eq_false (by intro h; exact absurd c (Int32.not_lt.mpr h.1))]; rfl, rfl⟩
  · refine g_iload_n (i := 1) (pc1 := 5) dX3_holds_4 rfl rfl rfl ?_
    refine g_aload_n (i := 0) (pc1 := 6) dX3_holds_5 rfl rfl rfl ?_
    refine g_get (pc1 := 9) dX3_holds_6 rfl flX3_9 rfl rfl ?_
    rw [hL.1]
    refine g_icmp_ge (pc1 := 12) (tgt := 16) dX3_holds_9 rfl (by decide) (fun c2 => ?_) (fun c2 => ?_)
    · refine g_iconst (v := 0) (pc1 := 17) dX3_holds_16 rfl (by decide) ?_
      refine g_iret dX3_holds_17 rfl rfl (Nat.le_of_ble_eq_true rfl) (Nat.le_of_ble_eq_true rfl) ?_
      exact ⟨by rw [decide_eq_false (by intro h; exact absurd h.2 (Int32.not_lt.mpr c2))]; rfl, rfl⟩
    · refine g_iconst (v := 1) (pc1 := 13) dX3_holds_12 rfl (by decide) ?_
      refine g_goto (tgt := 17) dX3_holds_13 (by decide) ?_
      refine g_iret dX3_holds_17 rfl rfl (Nat.le_of_ble_eq_true rfl) (Nat.le_of_ble_eq_true rfl) ?_
      exact ⟨by rw [decide_eq_true ⟨Int32.not_lt.mp c, Int32.not_le.mp c2⟩]; rfl, rfl⟩
theorem c_write9 {lg : tLog} (hL : lC L1 lg) (op x : Int32) : aRet 0 0 0 mX3_write [.ref 9, .int op, .int x] (cp G K S L1 U L2 L3 C P r) (fun v g => (lg.length < 3000 ∧ v = some (.int 1) ∧ ∃ L' : tL, lC L' (lg ++ [(op, x)]) ∧ g = (cp G K S L' U L2 L3 C P r)) ∨ (¬ lg.length < 3000 ∧ v = some (.int 0) ∧ g = cp G K S L1 U L2 L3 C P r)) := by
  have hl := hL.2.1
  obtain ⟨sz, fo, fn⟩ := L1
  obtain rfl : sz = nI lg.length := hL.1
  refine aRet.of (by decide) (Nat.le_of_ble_eq_true rfl) (a_ok2 rfl) ?_
  refine g_aload_n (i := 0) (pc1 := 1) dX3_write_0 rfl rfl rfl ?_
  refine g_get (pc1 := 4) dX3_write_1 rfl flX3_9 rfl rfl ?_
  refine g_sipush (v := 3000) (pc1 := 7) dX3_write_4 rfl (by decide) ?_
  refine g_icmp_lt (pc1 := 10) (tgt := 12) dX3_write_7 rfl (by decide) (fun c => ?_) (fun c => ?_)
  · have h1 : lg.length < 3000 := (nI_ltI (a := lg.length) (b := 3000) (by omega) (by omega)).mp c
    refine g_aload_n (i := 0) (pc1 := 13) dX3_write_12 rfl rfl rfl ?_
    refine g_get (pc1 := 16) dX3_write_13 rfl flX3_15 rfl rfl ?_
    refine g_aload_n (i := 0) (pc1 := 17) dX3_write_16 rfl rfl rfl ?_
    refine g_get (pc1 := 20) dX3_write_17 rfl flX3_9 rfl rfl ?_
    refine g_iload_n (i := 1) (pc1 := 21) dX3_write_20 rfl rfl rfl ?_
    refine g_iastJ (pc1 := 22) dX3_write_21 rfl rfl rfl h1 (by decide) ?_
    refine g_aload_n (i := 0) (pc1 := 23) dX3_write_22 rfl rfl rfl ?_
    refine g_get (pc1 := 26) dX3_write_23 rfl flX3_19 rfl rfl ?_
    refine g_aload_n (i := 0) (pc1 := 27) dX3_write_26 rfl rfl rfl ?_
    refine g_get (pc1 := 30) dX3_write_27 rfl flX3_9 rfl rfl ?_
    refine g_iload_n (i := 2) (pc1 := 31) dX3_write_30 rfl rfl rfl ?_
    refine g_iastJ (pc1 := 32) dX3_write_31 rfl rfl rfl h1 (by decide) ?_
    refine g_aload_n (i := 0) (pc1 := 33) dX3_write_32 rfl rfl rfl ?_
    refine g_dup (pc1 := 34) dX3_write_33 rfl rfl ?_
    refine g_get (pc1 := 37) dX3_write_34 rfl flX3_9 rfl rfl ?_
    refine g_iconst (v := 1) (pc1 := 38) dX3_write_37 rfl (by decide) ?_
    refine g_iadd (pc1 := 39) dX3_write_38 rfl ?_
    refine g_puti (pc1 := 42) dX3_write_39 rfl flX3_9 rfl (Nat.le_of_ble_eq_true rfl) rfl rfl ?_
    refine g_iconst (v := 1) (pc1 := 43) dX3_write_42 rfl (by decide) ?_
    refine g_iret dX3_write_43 rfl rfl (Nat.le_of_ble_eq_true rfl) (Nat.le_of_ble_eq_true rfl) ?_
    exact Or.inl ⟨h1, rfl, (nI lg.length + 1, upd fo lg.length op, upd fn lg.length x), by rw [nI_1]; exact hL.app h1 op x, rfl⟩
  · have h1 : ¬ lg.length < 3000 := fun q => c ((nI_ltI (a := lg.length) (b := 3000) (by omega) (by omega)).mpr q)
    refine g_iconst (v := 0) (pc1 := 11) dX3_write_10 rfl (by decide) ?_
    refine g_iret dX3_write_11 rfl rfl (Nat.le_of_ble_eq_true rfl) (Nat.le_of_ble_eq_true rfl) ?_
    exact Or.inr ⟨h1, rfl, rfl⟩
theorem c_part9 {lg : tLog} (hL : lC L1 lg) (i w : Int32) : aRet 1 0 0 mX3_part [.ref 9, .int i, .int w] (cp G K S L1 U L2 L3 C P r) (fun v g => v = some (.int (prt lg i w)) ∧ g = cp G K S L1 U L2 L3 C P r) := by
  have hl := hL.2.1
  refine aRet.of (by decide) (Nat.le_of_ble_eq_true rfl) (a_ok2 rfl) ?_
  refine g_aload_n (i := 0) (pc1 := 1) dX3_part_0 rfl rfl rfl ?_
  refine g_iload_n (i := 1) (pc1 := 2) dX3_part_1 rfl rfl rfl ?_
  refine g_V1 (M := mX3_holds) (pc1 := 5) dX3_part_2 rfl lkX3_22 tmX3_holds rfl (c_holds9 G K S L1 U L2 L3 C P r hL i) (Nat.le_of_ble_eq_true rfl) rfl (Nat.le_of_ble_eq_true rfl) (Nat.le_of_ble_eq_true rfl) ?_
  rintro _ _ ⟨rfl, rfl⟩
  refine g_if_eq (pc1 := 8) (tgt := 17) dX3_part_5 rfl (by decide) (fun c => ?_) (fun c => ?_)
  · rw [bI_eq0, decide_eq_false_iff_not] at c
    refine g_iconst (v := (-1)) (pc1 := 18) dX3_part_17 rfl (by decide) ?_
    refine g_iret dX3_part_18 rfl rfl (Nat.le_of_ble_eq_true rfl) (Nat.le_of_ble_eq_true rfl) ?_
    exact ⟨by unfold prt; rw [if_neg c], rfl⟩
  · rw [bI_ne0, decide_eq_true_eq] at c
    have hp : prt lg i w = if w = 0 then (lg.getD i.toNatClampNeg (0, 0)).1 else if w = 1 then (lg.getD i.toNatClampNeg (0, 0)).2 else -1 := by unfold prt; rw [if_pos c]
    obtain ⟨j, hj, rfl⟩ := (hol_iff (by omega)).mp c
    have hcl : (nI j).toNatClampNeg = j := nI_clamp (by omega)
    obtain ⟨⟨ea, eb⟩, he⟩ : ∃ e, lg[j]? = some e := ⟨_, List.getElem?_eq_getElem hj⟩
    obtain ⟨h1, h2⟩ := hL.2.2 j ea eb he
    have hd : lg.getD (nI j).toNatClampNeg (0, 0) = (ea, eb) := by rw [hcl, List.getD_eq_getElem?_getD, he]; rfl
    rw [hd] at hp
    refine g_iload_n (i := 2) (pc1 := 9) dX3_part_8 rfl rfl rfl ?_
    refine g_if_lt (pc1 := 12) (tgt := 17) dX3_part_9 rfl (by decide) (fun c2 => ?_) (fun c2 => ?_)
    · refine g_iconst (v := (-1)) (pc1 := 18) dX3_part_17 rfl (by decide) ?_
      refine g_iret dX3_part_18 rfl rfl (Nat.le_of_ble_eq_true rfl) (Nat.le_of_ble_eq_true rfl) ?_
      refine ⟨?_, rfl⟩
      have h3 : ¬ w = 0 := fun e => by rw [e] at c2; exact absurd c2 (by decide)
      have h4 : ¬ w = 1 := fun e => by rw [e] at c2; exact absurd c2 (by decide)
      rw [hp, if_neg h3, if_neg h4]
    · refine g_iload_n (i := 2) (pc1 := 13) dX3_part_12 rfl rfl rfl ?_
      refine g_iconst (v := 1) (pc1 := 14) dX3_part_13 rfl (by decide) ?_
      refine g_icmp_le (pc1 := 17) (tgt := 19) dX3_part_14 rfl (by decide) (fun c3 => ?_) (fun c3 => ?_)
      · refine g_iload_n (i := 2) (pc1 := 20) dX3_part_19 rfl rfl rfl ?_
        refine g_if_ne (pc1 := 23) (tgt := 32) dX3_part_20 rfl (by decide) (fun c4 => ?_) (fun c4 => ?_)
        · refine g_aload_n (i := 0) (pc1 := 33) dX3_part_32 rfl rfl rfl ?_
          refine g_get (pc1 := 36) dX3_part_33 rfl flX3_19 rfl rfl ?_
          refine g_iload_n (i := 1) (pc1 := 37) dX3_part_36 rfl rfl rfl ?_
          refine g_ialdJ (pc1 := 38) dX3_part_37 rfl rfl rfl (by omega) (by decide) ?_
          refine g_iret dX3_part_38 rfl rfl (Nat.le_of_ble_eq_true rfl) (Nat.le_of_ble_eq_true rfl) ?_
          refine ⟨?_, rfl⟩
          have h5 : w = 1 := by
            have a1 := Int32.le_iff_toInt_le.mp c3
            have a2 := Int32.le_iff_toInt_le.mp (Int32.not_lt.mp c2)
            have a3 : ¬ w.toInt = (0 : Int32).toInt := fun e => c4 (Int32.toInt_inj.mp e)
            refine Int32.toInt_inj.mp ?_
            have b1 : (1 : Int32).toInt = 1 := by decide
            have b0 : (0 : Int32).toInt = 0 := by decide
            omega
          rw [hp, if_neg c4, if_pos h5]
          exact congrArg (fun z => some (Value.int z)) h2
        · refine g_aload_n (i := 0) (pc1 := 24) dX3_part_23 rfl rfl rfl ?_
          refine g_get (pc1 := 27) dX3_part_24 rfl flX3_15 rfl rfl ?_
          refine g_iload_n (i := 1) (pc1 := 28) dX3_part_27 rfl rfl rfl ?_
          refine g_ialdJ (pc1 := 29) dX3_part_28 rfl rfl rfl (by omega) (by decide) ?_
          refine g_goto (tgt := 38) dX3_part_29 (by decide) ?_
          refine g_iret dX3_part_38 rfl rfl (Nat.le_of_ble_eq_true rfl) (Nat.le_of_ble_eq_true rfl) ?_
          refine ⟨?_, rfl⟩
          rw [hp, if_pos c4]
          exact congrArg (fun z => some (Value.int z)) h1
      · refine g_iconst (v := (-1)) (pc1 := 18) dX3_part_17 rfl (by decide) ?_
        refine g_iret dX3_part_18 rfl rfl (Nat.le_of_ble_eq_true rfl) (Nat.le_of_ble_eq_true rfl) ?_
        refine ⟨?_, rfl⟩
        have h3 : ¬ w = 0 := fun e => by rw [e] at c3; exact absurd (by decide) c3
        have h4 : ¬ w = 1 := fun e => by rw [e] at c3; exact absurd (by decide) c3
        rw [hp, if_neg h3, if_neg h4]
theorem c_holds14 {lg : tLog} (hL : lC L2 lg) (i : Int32) : aRet 0 0 0 mX3_holds [.ref 14, .int i] (cp G K S L1 U L2 L3 C P r) (fun v g => v = some (.int (bI (decide (0 ≤ i ∧ i < nI lg.length)))) ∧ g = cp G K S L1 U L2 L3 C P r) := by
  refine aRet.of (by decide) (Nat.le_of_ble_eq_true rfl) (a_ok2 rfl) ?_
  refine g_iload_n (i := 1) (pc1 := 1) dX3_holds_0 rfl rfl rfl ?_
  refine g_if_lt (pc1 := 4) (tgt := 16) dX3_holds_1 rfl (by decide) (fun c => ?_) (fun c => ?_)
  · refine g_iconst (v := 0) (pc1 := 17) dX3_holds_16 rfl (by decide) ?_
    refine g_iret dX3_holds_17 rfl rfl (Nat.le_of_ble_eq_true rfl) (Nat.le_of_ble_eq_true rfl) ?_
    exact ⟨by rw [decide_eq_false (by intro h; exact absurd c (Int32.not_lt.mpr h.1))]; rfl, rfl⟩
  · refine g_iload_n (i := 1) (pc1 := 5) dX3_holds_4 rfl rfl rfl ?_
    refine g_aload_n (i := 0) (pc1 := 6) dX3_holds_5 rfl rfl rfl ?_
    refine g_get (pc1 := 9) dX3_holds_6 rfl flX3_9 rfl rfl ?_
    rw [hL.1]
    refine g_icmp_ge (pc1 := 12) (tgt := 16) dX3_holds_9 rfl (by decide) (fun c2 => ?_) (fun c2 => ?_)
    · refine g_iconst (v := 0) (pc1 := 17) dX3_holds_16 rfl (by decide) ?_
      refine g_iret dX3_holds_17 rfl rfl (Nat.le_of_ble_eq_true rfl) (Nat.le_of_ble_eq_true rfl) ?_
      exact ⟨by rw [decide_eq_false (by intro h; exact absurd h.2 (Int32.not_lt.mpr c2))]; rfl, rfl⟩
    · refine g_iconst (v := 1) (pc1 := 13) dX3_holds_12 rfl (by decide) ?_
      refine g_goto (tgt := 17) dX3_holds_13 (by decide) ?_
      refine g_iret dX3_holds_17 rfl rfl (Nat.le_of_ble_eq_true rfl) (Nat.le_of_ble_eq_true rfl) ?_
      exact ⟨by rw [decide_eq_true ⟨Int32.not_lt.mp c, Int32.not_le.mp c2⟩]; rfl, rfl⟩
theorem c_write14 {lg : tLog} (hL : lC L2 lg) (op x : Int32) : aRet 0 0 0 mX3_write [.ref 14, .int op, .int x] (cp G K S L1 U L2 L3 C P r) (fun v g => (lg.length < 3000 ∧ v = some (.int 1) ∧ ∃ L' : tL, lC L' (lg ++ [(op, x)]) ∧ g = (cp G K S L1 U L' L3 C P r)) ∨ (¬ lg.length < 3000 ∧ v = some (.int 0) ∧ g = cp G K S L1 U L2 L3 C P r)) := by
  have hl := hL.2.1
  obtain ⟨sz, fo, fn⟩ := L2
  obtain rfl : sz = nI lg.length := hL.1
  refine aRet.of (by decide) (Nat.le_of_ble_eq_true rfl) (a_ok2 rfl) ?_
  refine g_aload_n (i := 0) (pc1 := 1) dX3_write_0 rfl rfl rfl ?_
  refine g_get (pc1 := 4) dX3_write_1 rfl flX3_9 rfl rfl ?_
  refine g_sipush (v := 3000) (pc1 := 7) dX3_write_4 rfl (by decide) ?_
  refine g_icmp_lt (pc1 := 10) (tgt := 12) dX3_write_7 rfl (by decide) (fun c => ?_) (fun c => ?_)
  · have h1 : lg.length < 3000 := (nI_ltI (a := lg.length) (b := 3000) (by omega) (by omega)).mp c
    refine g_aload_n (i := 0) (pc1 := 13) dX3_write_12 rfl rfl rfl ?_
    refine g_get (pc1 := 16) dX3_write_13 rfl flX3_15 rfl rfl ?_
    refine g_aload_n (i := 0) (pc1 := 17) dX3_write_16 rfl rfl rfl ?_
    refine g_get (pc1 := 20) dX3_write_17 rfl flX3_9 rfl rfl ?_
    refine g_iload_n (i := 1) (pc1 := 21) dX3_write_20 rfl rfl rfl ?_
    refine g_iastJ (pc1 := 22) dX3_write_21 rfl rfl rfl h1 (by decide) ?_
    refine g_aload_n (i := 0) (pc1 := 23) dX3_write_22 rfl rfl rfl ?_
    refine g_get (pc1 := 26) dX3_write_23 rfl flX3_19 rfl rfl ?_
    refine g_aload_n (i := 0) (pc1 := 27) dX3_write_26 rfl rfl rfl ?_
    refine g_get (pc1 := 30) dX3_write_27 rfl flX3_9 rfl rfl ?_
    refine g_iload_n (i := 2) (pc1 := 31) dX3_write_30 rfl rfl rfl ?_
    refine g_iastJ (pc1 := 32) dX3_write_31 rfl rfl rfl h1 (by decide) ?_
    refine g_aload_n (i := 0) (pc1 := 33) dX3_write_32 rfl rfl rfl ?_
    refine g_dup (pc1 := 34) dX3_write_33 rfl rfl ?_
    refine g_get (pc1 := 37) dX3_write_34 rfl flX3_9 rfl rfl ?_
    refine g_iconst (v := 1) (pc1 := 38) dX3_write_37 rfl (by decide) ?_
    refine g_iadd (pc1 := 39) dX3_write_38 rfl ?_
    refine g_puti (pc1 := 42) dX3_write_39 rfl flX3_9 rfl (Nat.le_of_ble_eq_true rfl) rfl rfl ?_
    refine g_iconst (v := 1) (pc1 := 43) dX3_write_42 rfl (by decide) ?_
    refine g_iret dX3_write_43 rfl rfl (Nat.le_of_ble_eq_true rfl) (Nat.le_of_ble_eq_true rfl) ?_
    exact Or.inl ⟨h1, rfl, (nI lg.length + 1, upd fo lg.length op, upd fn lg.length x), by rw [nI_1]; exact hL.app h1 op x, rfl⟩
  · have h1 : ¬ lg.length < 3000 := fun q => c ((nI_ltI (a := lg.length) (b := 3000) (by omega) (by omega)).mpr q)
    refine g_iconst (v := 0) (pc1 := 11) dX3_write_10 rfl (by decide) ?_
    refine g_iret dX3_write_11 rfl rfl (Nat.le_of_ble_eq_true rfl) (Nat.le_of_ble_eq_true rfl) ?_
    exact Or.inr ⟨h1, rfl, rfl⟩
theorem c_part14 {lg : tLog} (hL : lC L2 lg) (i w : Int32) : aRet 1 0 0 mX3_part [.ref 14, .int i, .int w] (cp G K S L1 U L2 L3 C P r) (fun v g => v = some (.int (prt lg i w)) ∧ g = cp G K S L1 U L2 L3 C P r) := by
  have hl := hL.2.1
  refine aRet.of (by decide) (Nat.le_of_ble_eq_true rfl) (a_ok2 rfl) ?_
  refine g_aload_n (i := 0) (pc1 := 1) dX3_part_0 rfl rfl rfl ?_
  refine g_iload_n (i := 1) (pc1 := 2) dX3_part_1 rfl rfl rfl ?_
  refine g_V1 (M := mX3_holds) (pc1 := 5) dX3_part_2 rfl lkX3_22 tmX3_holds rfl (c_holds14 G K S L1 U L2 L3 C P r hL i) (Nat.le_of_ble_eq_true rfl) rfl (Nat.le_of_ble_eq_true rfl) (Nat.le_of_ble_eq_true rfl) ?_
  rintro _ _ ⟨rfl, rfl⟩
  refine g_if_eq (pc1 := 8) (tgt := 17) dX3_part_5 rfl (by decide) (fun c => ?_) (fun c => ?_)
  · rw [bI_eq0, decide_eq_false_iff_not] at c
    refine g_iconst (v := (-1)) (pc1 := 18) dX3_part_17 rfl (by decide) ?_
    refine g_iret dX3_part_18 rfl rfl (Nat.le_of_ble_eq_true rfl) (Nat.le_of_ble_eq_true rfl) ?_
    exact ⟨by unfold prt; rw [if_neg c], rfl⟩
  · rw [bI_ne0, decide_eq_true_eq] at c
    have hp : prt lg i w = if w = 0 then (lg.getD i.toNatClampNeg (0, 0)).1 else if w = 1 then (lg.getD i.toNatClampNeg (0, 0)).2 else -1 := by unfold prt; rw [if_pos c]
    obtain ⟨j, hj, rfl⟩ := (hol_iff (by omega)).mp c
    have hcl : (nI j).toNatClampNeg = j := nI_clamp (by omega)
    obtain ⟨⟨ea, eb⟩, he⟩ : ∃ e, lg[j]? = some e := ⟨_, List.getElem?_eq_getElem hj⟩
    obtain ⟨h1, h2⟩ := hL.2.2 j ea eb he
    have hd : lg.getD (nI j).toNatClampNeg (0, 0) = (ea, eb) := by rw [hcl, List.getD_eq_getElem?_getD, he]; rfl
    rw [hd] at hp
    refine g_iload_n (i := 2) (pc1 := 9) dX3_part_8 rfl rfl rfl ?_
    refine g_if_lt (pc1 := 12) (tgt := 17) dX3_part_9 rfl (by decide) (fun c2 => ?_) (fun c2 => ?_)
    · refine g_iconst (v := (-1)) (pc1 := 18) dX3_part_17 rfl (by decide) ?_
      refine g_iret dX3_part_18 rfl rfl (Nat.le_of_ble_eq_true rfl) (Nat.le_of_ble_eq_true rfl) ?_
      refine ⟨?_, rfl⟩
      have h3 : ¬ w = 0 := fun e => by rw [e] at c2; exact absurd c2 (by decide)
      have h4 : ¬ w = 1 := fun e => by rw [e] at c2; exact absurd c2 (by decide)
      rw [hp, if_neg h3, if_neg h4]
    · refine g_iload_n (i := 2) (pc1 := 13) dX3_part_12 rfl rfl rfl ?_
      refine g_iconst (v := 1) (pc1 := 14) dX3_part_13 rfl (by decide) ?_
      refine g_icmp_le (pc1 := 17) (tgt := 19) dX3_part_14 rfl (by decide) (fun c3 => ?_) (fun c3 => ?_)
      · refine g_iload_n (i := 2) (pc1 := 20) dX3_part_19 rfl rfl rfl ?_
        refine g_if_ne (pc1 := 23) (tgt := 32) dX3_part_20 rfl (by decide) (fun c4 => ?_) (fun c4 => ?_)
        · refine g_aload_n (i := 0) (pc1 := 33) dX3_part_32 rfl rfl rfl ?_
          refine g_get (pc1 := 36) dX3_part_33 rfl flX3_19 rfl rfl ?_
          refine g_iload_n (i := 1) (pc1 := 37) dX3_part_36 rfl rfl rfl ?_
          refine g_ialdJ (pc1 := 38) dX3_part_37 rfl rfl rfl (by omega) (by decide) ?_
          refine g_iret dX3_part_38 rfl rfl (Nat.le_of_ble_eq_true rfl) (Nat.le_of_ble_eq_true rfl) ?_
          refine ⟨?_, rfl⟩
          have h5 : w = 1 := by
            have a1 := Int32.le_iff_toInt_le.mp c3
            have a2 := Int32.le_iff_toInt_le.mp (Int32.not_lt.mp c2)
            have a3 : ¬ w.toInt = (0 : Int32).toInt := fun e => c4 (Int32.toInt_inj.mp e)
            refine Int32.toInt_inj.mp ?_
            have b1 : (1 : Int32).toInt = 1 := by decide
            have b0 : (0 : Int32).toInt = 0 := by decide
            omega
          rw [hp, if_neg c4, if_pos h5]
          exact congrArg (fun z => some (Value.int z)) h2
        · refine g_aload_n (i := 0) (pc1 := 24) dX3_part_23 rfl rfl rfl ?_
          refine g_get (pc1 := 27) dX3_part_24 rfl flX3_15 rfl rfl ?_
          refine g_iload_n (i := 1) (pc1 := 28) dX3_part_27 rfl rfl rfl ?_
          refine g_ialdJ (pc1 := 29) dX3_part_28 rfl rfl rfl (by omega) (by decide) ?_
          refine g_goto (tgt := 38) dX3_part_29 (by decide) ?_
          refine g_iret dX3_part_38 rfl rfl (Nat.le_of_ble_eq_true rfl) (Nat.le_of_ble_eq_true rfl) ?_
          refine ⟨?_, rfl⟩
          rw [hp, if_pos c4]
          exact congrArg (fun z => some (Value.int z)) h1
      · refine g_iconst (v := (-1)) (pc1 := 18) dX3_part_17 rfl (by decide) ?_
        refine g_iret dX3_part_18 rfl rfl (Nat.le_of_ble_eq_true rfl) (Nat.le_of_ble_eq_true rfl) ?_
        refine ⟨?_, rfl⟩
        have h3 : ¬ w = 0 := fun e => by rw [e] at c3; exact absurd (by decide) c3
        have h4 : ¬ w = 1 := fun e => by rw [e] at c3; exact absurd (by decide) c3
        rw [hp, if_neg h3, if_neg h4]
theorem c_holds18 {lg : tLog} (hL : lC L3 lg) (i : Int32) : aRet 0 0 0 mX3_holds [.ref 18, .int i] (cp G K S L1 U L2 L3 C P r) (fun v g => v = some (.int (bI (decide (0 ≤ i ∧ i < nI lg.length)))) ∧ g = cp G K S L1 U L2 L3 C P r) := by
  refine aRet.of (by decide) (Nat.le_of_ble_eq_true rfl) (a_ok2 rfl) ?_
  refine g_iload_n (i := 1) (pc1 := 1) dX3_holds_0 rfl rfl rfl ?_
  refine g_if_lt (pc1 := 4) (tgt := 16) dX3_holds_1 rfl (by decide) (fun c => ?_) (fun c => ?_)
  · refine g_iconst (v := 0) (pc1 := 17) dX3_holds_16 rfl (by decide) ?_
    refine g_iret dX3_holds_17 rfl rfl (Nat.le_of_ble_eq_true rfl) (Nat.le_of_ble_eq_true rfl) ?_
    exact ⟨by rw [decide_eq_false (by intro h; exact absurd c (Int32.not_lt.mpr h.1))]; rfl, rfl⟩
  · refine g_iload_n (i := 1) (pc1 := 5) dX3_holds_4 rfl rfl rfl ?_
    refine g_aload_n (i := 0) (pc1 := 6) dX3_holds_5 rfl rfl rfl ?_
    refine g_get (pc1 := 9) dX3_holds_6 rfl flX3_9 rfl rfl ?_
    rw [hL.1]
    refine g_icmp_ge (pc1 := 12) (tgt := 16) dX3_holds_9 rfl (by decide) (fun c2 => ?_) (fun c2 => ?_)
    · refine g_iconst (v := 0) (pc1 := 17) dX3_holds_16 rfl (by decide) ?_
      refine g_iret dX3_holds_17 rfl rfl (Nat.le_of_ble_eq_true rfl) (Nat.le_of_ble_eq_true rfl) ?_
      exact ⟨by rw [decide_eq_false (by intro h; exact absurd h.2 (Int32.not_lt.mpr c2))]; rfl, rfl⟩
    · refine g_iconst (v := 1) (pc1 := 13) dX3_holds_12 rfl (by decide) ?_
      refine g_goto (tgt := 17) dX3_holds_13 (by decide) ?_
      refine g_iret dX3_holds_17 rfl rfl (Nat.le_of_ble_eq_true rfl) (Nat.le_of_ble_eq_true rfl) ?_
      exact ⟨by rw [decide_eq_true ⟨Int32.not_lt.mp c, Int32.not_le.mp c2⟩]; rfl, rfl⟩
theorem c_write18 {lg : tLog} (hL : lC L3 lg) (op x : Int32) : aRet 0 0 0 mX3_write [.ref 18, .int op, .int x] (cp G K S L1 U L2 L3 C P r) (fun v g => (lg.length < 3000 ∧ v = some (.int 1) ∧ ∃ L' : tL, lC L' (lg ++ [(op, x)]) ∧ g = (cp G K S L1 U L2 L' C P r)) ∨ (¬ lg.length < 3000 ∧ v = some (.int 0) ∧ g = cp G K S L1 U L2 L3 C P r)) := by
  have hl := hL.2.1
  obtain ⟨sz, fo, fn⟩ := L3
  obtain rfl : sz = nI lg.length := hL.1
  refine aRet.of (by decide) (Nat.le_of_ble_eq_true rfl) (a_ok2 rfl) ?_
  refine g_aload_n (i := 0) (pc1 := 1) dX3_write_0 rfl rfl rfl ?_
  refine g_get (pc1 := 4) dX3_write_1 rfl flX3_9 rfl rfl ?_
  refine g_sipush (v := 3000) (pc1 := 7) dX3_write_4 rfl (by decide) ?_
  refine g_icmp_lt (pc1 := 10) (tgt := 12) dX3_write_7 rfl (by decide) (fun c => ?_) (fun c => ?_)
  · have h1 : lg.length < 3000 := (nI_ltI (a := lg.length) (b := 3000) (by omega) (by omega)).mp c
    refine g_aload_n (i := 0) (pc1 := 13) dX3_write_12 rfl rfl rfl ?_
    refine g_get (pc1 := 16) dX3_write_13 rfl flX3_15 rfl rfl ?_
    refine g_aload_n (i := 0) (pc1 := 17) dX3_write_16 rfl rfl rfl ?_
    refine g_get (pc1 := 20) dX3_write_17 rfl flX3_9 rfl rfl ?_
    refine g_iload_n (i := 1) (pc1 := 21) dX3_write_20 rfl rfl rfl ?_
    refine g_iastJ (pc1 := 22) dX3_write_21 rfl rfl rfl h1 (by decide) ?_
    refine g_aload_n (i := 0) (pc1 := 23) dX3_write_22 rfl rfl rfl ?_
    refine g_get (pc1 := 26) dX3_write_23 rfl flX3_19 rfl rfl ?_
    refine g_aload_n (i := 0) (pc1 := 27) dX3_write_26 rfl rfl rfl ?_
    refine g_get (pc1 := 30) dX3_write_27 rfl flX3_9 rfl rfl ?_
    refine g_iload_n (i := 2) (pc1 := 31) dX3_write_30 rfl rfl rfl ?_
    refine g_iastJ (pc1 := 32) dX3_write_31 rfl rfl rfl h1 (by decide) ?_
    refine g_aload_n (i := 0) (pc1 := 33) dX3_write_32 rfl rfl rfl ?_
    refine g_dup (pc1 := 34) dX3_write_33 rfl rfl ?_
    refine g_get (pc1 := 37) dX3_write_34 rfl flX3_9 rfl rfl ?_
    refine g_iconst (v := 1) (pc1 := 38) dX3_write_37 rfl (by decide) ?_
    refine g_iadd (pc1 := 39) dX3_write_38 rfl ?_
    refine g_puti (pc1 := 42) dX3_write_39 rfl flX3_9 rfl (Nat.le_of_ble_eq_true rfl) rfl rfl ?_
    refine g_iconst (v := 1) (pc1 := 43) dX3_write_42 rfl (by decide) ?_
    refine g_iret dX3_write_43 rfl rfl (Nat.le_of_ble_eq_true rfl) (Nat.le_of_ble_eq_true rfl) ?_
    exact Or.inl ⟨h1, rfl, (nI lg.length + 1, upd fo lg.length op, upd fn lg.length x), by rw [nI_1]; exact hL.app h1 op x, rfl⟩
  · have h1 : ¬ lg.length < 3000 := fun q => c ((nI_ltI (a := lg.length) (b := 3000) (by omega) (by omega)).mpr q)
    refine g_iconst (v := 0) (pc1 := 11) dX3_write_10 rfl (by decide) ?_
    refine g_iret dX3_write_11 rfl rfl (Nat.le_of_ble_eq_true rfl) (Nat.le_of_ble_eq_true rfl) ?_
    exact Or.inr ⟨h1, rfl, rfl⟩
theorem c_part18 {lg : tLog} (hL : lC L3 lg) (i w : Int32) : aRet 1 0 0 mX3_part [.ref 18, .int i, .int w] (cp G K S L1 U L2 L3 C P r) (fun v g => v = some (.int (prt lg i w)) ∧ g = cp G K S L1 U L2 L3 C P r) := by
  have hl := hL.2.1
  refine aRet.of (by decide) (Nat.le_of_ble_eq_true rfl) (a_ok2 rfl) ?_
  refine g_aload_n (i := 0) (pc1 := 1) dX3_part_0 rfl rfl rfl ?_
  refine g_iload_n (i := 1) (pc1 := 2) dX3_part_1 rfl rfl rfl ?_
  refine g_V1 (M := mX3_holds) (pc1 := 5) dX3_part_2 rfl lkX3_22 tmX3_holds rfl (c_holds18 G K S L1 U L2 L3 C P r hL i) (Nat.le_of_ble_eq_true rfl) rfl (Nat.le_of_ble_eq_true rfl) (Nat.le_of_ble_eq_true rfl) ?_
  rintro _ _ ⟨rfl, rfl⟩
  refine g_if_eq (pc1 := 8) (tgt := 17) dX3_part_5 rfl (by decide) (fun c => ?_) (fun c => ?_)
  · rw [bI_eq0, decide_eq_false_iff_not] at c
    refine g_iconst (v := (-1)) (pc1 := 18) dX3_part_17 rfl (by decide) ?_
    refine g_iret dX3_part_18 rfl rfl (Nat.le_of_ble_eq_true rfl) (Nat.le_of_ble_eq_true rfl) ?_
    exact ⟨by unfold prt; rw [if_neg c], rfl⟩
  · rw [bI_ne0, decide_eq_true_eq] at c
    have hp : prt lg i w = if w = 0 then (lg.getD i.toNatClampNeg (0, 0)).1 else if w = 1 then (lg.getD i.toNatClampNeg (0, 0)).2 else -1 := by unfold prt; rw [if_pos c]
    obtain ⟨j, hj, rfl⟩ := (hol_iff (by omega)).mp c
    have hcl : (nI j).toNatClampNeg = j := nI_clamp (by omega)
    obtain ⟨⟨ea, eb⟩, he⟩ : ∃ e, lg[j]? = some e := ⟨_, List.getElem?_eq_getElem hj⟩
    obtain ⟨h1, h2⟩ := hL.2.2 j ea eb he
    have hd : lg.getD (nI j).toNatClampNeg (0, 0) = (ea, eb) := by rw [hcl, List.getD_eq_getElem?_getD, he]; rfl
    rw [hd] at hp
    refine g_iload_n (i := 2) (pc1 := 9) dX3_part_8 rfl rfl rfl ?_
    refine g_if_lt (pc1 := 12) (tgt := 17) dX3_part_9 rfl (by decide) (fun c2 => ?_) (fun c2 => ?_)
    · refine g_iconst (v := (-1)) (pc1 := 18) dX3_part_17 rfl (by decide) ?_
      refine g_iret dX3_part_18 rfl rfl (Nat.le_of_ble_eq_true rfl) (Nat.le_of_ble_eq_true rfl) ?_
      refine ⟨?_, rfl⟩
      have h3 : ¬ w = 0 := fun e => by rw [e] at c2; exact absurd c2 (by decide)
      have h4 : ¬ w = 1 := fun e => by rw [e] at c2; exact absurd c2 (by decide)
      rw [hp, if_neg h3, if_neg h4]
    · refine g_iload_n (i := 2) (pc1 := 13) dX3_part_12 rfl rfl rfl ?_
      refine g_iconst (v := 1) (pc1 := 14) dX3_part_13 rfl (by decide) ?_
      refine g_icmp_le (pc1 := 17) (tgt := 19) dX3_part_14 rfl (by decide) (fun c3 => ?_) (fun c3 => ?_)
      · refine g_iload_n (i := 2) (pc1 := 20) dX3_part_19 rfl rfl rfl ?_
        refine g_if_ne (pc1 := 23) (tgt := 32) dX3_part_20 rfl (by decide) (fun c4 => ?_) (fun c4 => ?_)
        · refine g_aload_n (i := 0) (pc1 := 33) dX3_part_32 rfl rfl rfl ?_
          refine g_get (pc1 := 36) dX3_part_33 rfl flX3_19 rfl rfl ?_
          refine g_iload_n (i := 1) (pc1 := 37) dX3_part_36 rfl rfl rfl ?_
          refine g_ialdJ (pc1 := 38) dX3_part_37 rfl rfl rfl (by omega) (by decide) ?_
          refine g_iret dX3_part_38 rfl rfl (Nat.le_of_ble_eq_true rfl) (Nat.le_of_ble_eq_true rfl) ?_
          refine ⟨?_, rfl⟩
          have h5 : w = 1 := by
            have a1 := Int32.le_iff_toInt_le.mp c3
            have a2 := Int32.le_iff_toInt_le.mp (Int32.not_lt.mp c2)
            have a3 : ¬ w.toInt = (0 : Int32).toInt := fun e => c4 (Int32.toInt_inj.mp e)
            refine Int32.toInt_inj.mp ?_
            have b1 : (1 : Int32).toInt = 1 := by decide
            have b0 : (0 : Int32).toInt = 0 := by decide
            omega
          rw [hp, if_neg c4, if_pos h5]
          exact congrArg (fun z => some (Value.int z)) h2
        · refine g_aload_n (i := 0) (pc1 := 24) dX3_part_23 rfl rfl rfl ?_
          refine g_get (pc1 := 27) dX3_part_24 rfl flX3_15 rfl rfl ?_
          refine g_iload_n (i := 1) (pc1 := 28) dX3_part_27 rfl rfl rfl ?_
          refine g_ialdJ (pc1 := 29) dX3_part_28 rfl rfl rfl (by omega) (by decide) ?_
          refine g_goto (tgt := 38) dX3_part_29 (by decide) ?_
          refine g_iret dX3_part_38 rfl rfl (Nat.le_of_ble_eq_true rfl) (Nat.le_of_ble_eq_true rfl) ?_
          refine ⟨?_, rfl⟩
          rw [hp, if_pos c4]
          exact congrArg (fun z => some (Value.int z)) h1
      · refine g_iconst (v := (-1)) (pc1 := 18) dX3_part_17 rfl (by decide) ?_
        refine g_iret dX3_part_18 rfl rfl (Nat.le_of_ble_eq_true rfl) (Nat.le_of_ble_eq_true rfl) ?_
        refine ⟨?_, rfl⟩
        have h3 : ¬ w = 0 := fun e => by rw [e] at c3; exact absurd (by decide) c3
        have h4 : ¬ w = 1 := fun e => by rw [e] at c3; exact absurd (by decide) c3
        rw [hp, if_neg h3, if_neg h4]
theorem c_become18_9 {lg : tLog} (hL : lC L1 lg) : aRet 2 0 0 mX3_become [.ref 18, .ref 9] (cp G K S L1 U L2 L3 C P r) (fun v g => v = none ∧ ∃ L' : tL, lC L' lg ∧ g = (cp G K S L1 U L2 L' C P r)) := by
  have hl := hL.2.1
  obtain ⟨sz, fo, fn⟩ := L1
  obtain rfl : sz = nI lg.length := hL.1
  obtain ⟨s2, fo2, fn2⟩ := L3
  refine aRet.of (by decide) (Nat.le_of_ble_eq_true rfl) (a_ok2 rfl) ?_
  refine g_aload_n (i := 0) (pc1 := 1) dX3_become_0 rfl rfl rfl ?_
  refine g_aload_n (i := 1) (pc1 := 2) dX3_become_1 rfl rfl rfl ?_
  refine g_get (pc1 := 5) dX3_become_2 rfl flX3_9 rfl rfl ?_
  refine g_puti (pc1 := 8) dX3_become_5 rfl flX3_9 rfl (Nat.le_of_ble_eq_true rfl) rfl rfl ?_
  refine g_aload_n (i := 1) (pc1 := 9) dX3_become_8 rfl rfl rfl ?_
  refine g_get (pc1 := 12) dX3_become_9 rfl flX3_15 rfl rfl ?_
  refine g_iconst (v := 0) (pc1 := 13) dX3_become_12 rfl (by decide) ?_
  refine g_aload_n (i := 0) (pc1 := 14) dX3_become_13 rfl rfl rfl ?_
  refine g_get (pc1 := 17) dX3_become_14 rfl flX3_15 rfl rfl ?_
  refine g_iconst (v := 0) (pc1 := 18) dX3_become_17 rfl (by decide) ?_
  refine g_aload_n (i := 0) (pc1 := 19) dX3_become_18 rfl rfl rfl ?_
  refine g_get (pc1 := 22) dX3_become_19 rfl flX3_9 rfl rfl ?_
  refine g_copy0 (pc1 := 25) dX3_become_22 rfl lkX3_26 rfl rfl (m := lg.length) (by omega) (by omega) (by decide) (Nat.le_of_ble_eq_true rfl) rfl ?_
  refine g_aload_n (i := 1) (pc1 := 26) dX3_become_25 rfl rfl rfl ?_
  refine g_get (pc1 := 29) dX3_become_26 rfl flX3_19 rfl rfl ?_
  refine g_iconst (v := 0) (pc1 := 30) dX3_become_29 rfl (by decide) ?_
  refine g_aload_n (i := 0) (pc1 := 31) dX3_become_30 rfl rfl rfl ?_
  refine g_get (pc1 := 34) dX3_become_31 rfl flX3_19 rfl rfl ?_
  refine g_iconst (v := 0) (pc1 := 35) dX3_become_34 rfl (by decide) ?_
  refine g_aload_n (i := 0) (pc1 := 36) dX3_become_35 rfl rfl rfl ?_
  refine g_get (pc1 := 39) dX3_become_36 rfl flX3_9 rfl rfl ?_
  refine g_copy0 (pc1 := 42) dX3_become_39 rfl lkX3_26 rfl rfl (m := lg.length) (by omega) (by omega) (by decide) (Nat.le_of_ble_eq_true rfl) rfl ?_
  refine g_vret dX3_become_42 rfl (Nat.le_of_ble_eq_true rfl) (Nat.le_of_ble_eq_true rfl) ?_
  refine ⟨rfl, (nI lg.length, va_cpy fo fo2 0 0 lg.length, va_cpy fn fn2 0 0 lg.length), ⟨rfl, hl, fun i a b hi => ?_⟩, rfl⟩
  have h1 : i < lg.length := (List.getElem?_eq_some_iff.mp hi).1
  show va_cpy fo fo2 0 0 lg.length i = a ∧ va_cpy fn fn2 0 0 lg.length i = b
  rw [pk_cpy_in (by omega) (by omega), pk_cpy_in (by omega) (by omega), show 0 + (i - 0) = i by omega]
  exact hL.2.2 i a b hi
theorem c_become18_14 {lg : tLog} (hL : lC L2 lg) : aRet 2 0 0 mX3_become [.ref 18, .ref 14] (cp G K S L1 U L2 L3 C P r) (fun v g => v = none ∧ ∃ L' : tL, lC L' lg ∧ g = (cp G K S L1 U L2 L' C P r)) := by
  have hl := hL.2.1
  obtain ⟨sz, fo, fn⟩ := L2
  obtain rfl : sz = nI lg.length := hL.1
  obtain ⟨s2, fo2, fn2⟩ := L3
  refine aRet.of (by decide) (Nat.le_of_ble_eq_true rfl) (a_ok2 rfl) ?_
  refine g_aload_n (i := 0) (pc1 := 1) dX3_become_0 rfl rfl rfl ?_
  refine g_aload_n (i := 1) (pc1 := 2) dX3_become_1 rfl rfl rfl ?_
  refine g_get (pc1 := 5) dX3_become_2 rfl flX3_9 rfl rfl ?_
  refine g_puti (pc1 := 8) dX3_become_5 rfl flX3_9 rfl (Nat.le_of_ble_eq_true rfl) rfl rfl ?_
  refine g_aload_n (i := 1) (pc1 := 9) dX3_become_8 rfl rfl rfl ?_
  refine g_get (pc1 := 12) dX3_become_9 rfl flX3_15 rfl rfl ?_
  refine g_iconst (v := 0) (pc1 := 13) dX3_become_12 rfl (by decide) ?_
  refine g_aload_n (i := 0) (pc1 := 14) dX3_become_13 rfl rfl rfl ?_
  refine g_get (pc1 := 17) dX3_become_14 rfl flX3_15 rfl rfl ?_
  refine g_iconst (v := 0) (pc1 := 18) dX3_become_17 rfl (by decide) ?_
  refine g_aload_n (i := 0) (pc1 := 19) dX3_become_18 rfl rfl rfl ?_
  refine g_get (pc1 := 22) dX3_become_19 rfl flX3_9 rfl rfl ?_
  refine g_copy0 (pc1 := 25) dX3_become_22 rfl lkX3_26 rfl rfl (m := lg.length) (by omega) (by omega) (by decide) (Nat.le_of_ble_eq_true rfl) rfl ?_
  refine g_aload_n (i := 1) (pc1 := 26) dX3_become_25 rfl rfl rfl ?_
  refine g_get (pc1 := 29) dX3_become_26 rfl flX3_19 rfl rfl ?_
  refine g_iconst (v := 0) (pc1 := 30) dX3_become_29 rfl (by decide) ?_
  refine g_aload_n (i := 0) (pc1 := 31) dX3_become_30 rfl rfl rfl ?_
  refine g_get (pc1 := 34) dX3_become_31 rfl flX3_19 rfl rfl ?_
  refine g_iconst (v := 0) (pc1 := 35) dX3_become_34 rfl (by decide) ?_
  refine g_aload_n (i := 0) (pc1 := 36) dX3_become_35 rfl rfl rfl ?_
  refine g_get (pc1 := 39) dX3_become_36 rfl flX3_9 rfl rfl ?_
  refine g_copy0 (pc1 := 42) dX3_become_39 rfl lkX3_26 rfl rfl (m := lg.length) (by omega) (by omega) (by decide) (Nat.le_of_ble_eq_true rfl) rfl ?_
  refine g_vret dX3_become_42 rfl (Nat.le_of_ble_eq_true rfl) (Nat.le_of_ble_eq_true rfl) ?_
  refine ⟨rfl, (nI lg.length, va_cpy fo fo2 0 0 lg.length, va_cpy fn fn2 0 0 lg.length), ⟨rfl, hl, fun i a b hi => ?_⟩, rfl⟩
  have h1 : i < lg.length := (List.getElem?_eq_some_iff.mp hi).1
  show va_cpy fo fo2 0 0 lg.length i = a ∧ va_cpy fn fn2 0 0 lg.length i = b
  rw [pk_cpy_in (by omega) (by omega), pk_cpy_in (by omega) (by omega), show 0 + (i - 0) = i by omega]
  exact hL.2.2 i a b hi
theorem c_become14_9 {lg : tLog} (hL : lC L1 lg) : aRet 2 0 0 mX3_become [.ref 14, .ref 9] (cp G K S L1 U L2 L3 C P r) (fun v g => v = none ∧ ∃ L' : tL, lC L' lg ∧ g = (cp G K S L1 U L' L3 C P r)) := by
  have hl := hL.2.1
  obtain ⟨sz, fo, fn⟩ := L1
  obtain rfl : sz = nI lg.length := hL.1
  obtain ⟨s2, fo2, fn2⟩ := L2
  refine aRet.of (by decide) (Nat.le_of_ble_eq_true rfl) (a_ok2 rfl) ?_
  refine g_aload_n (i := 0) (pc1 := 1) dX3_become_0 rfl rfl rfl ?_
  refine g_aload_n (i := 1) (pc1 := 2) dX3_become_1 rfl rfl rfl ?_
  refine g_get (pc1 := 5) dX3_become_2 rfl flX3_9 rfl rfl ?_
  refine g_puti (pc1 := 8) dX3_become_5 rfl flX3_9 rfl (Nat.le_of_ble_eq_true rfl) rfl rfl ?_
  refine g_aload_n (i := 1) (pc1 := 9) dX3_become_8 rfl rfl rfl ?_
  refine g_get (pc1 := 12) dX3_become_9 rfl flX3_15 rfl rfl ?_
  refine g_iconst (v := 0) (pc1 := 13) dX3_become_12 rfl (by decide) ?_
  refine g_aload_n (i := 0) (pc1 := 14) dX3_become_13 rfl rfl rfl ?_
  refine g_get (pc1 := 17) dX3_become_14 rfl flX3_15 rfl rfl ?_
  refine g_iconst (v := 0) (pc1 := 18) dX3_become_17 rfl (by decide) ?_
  refine g_aload_n (i := 0) (pc1 := 19) dX3_become_18 rfl rfl rfl ?_
  refine g_get (pc1 := 22) dX3_become_19 rfl flX3_9 rfl rfl ?_
  refine g_copy0 (pc1 := 25) dX3_become_22 rfl lkX3_26 rfl rfl (m := lg.length) (by omega) (by omega) (by decide) (Nat.le_of_ble_eq_true rfl) rfl ?_
  refine g_aload_n (i := 1) (pc1 := 26) dX3_become_25 rfl rfl rfl ?_
  refine g_get (pc1 := 29) dX3_become_26 rfl flX3_19 rfl rfl ?_
  refine g_iconst (v := 0) (pc1 := 30) dX3_become_29 rfl (by decide) ?_
  refine g_aload_n (i := 0) (pc1 := 31) dX3_become_30 rfl rfl rfl ?_
  refine g_get (pc1 := 34) dX3_become_31 rfl flX3_19 rfl rfl ?_
  refine g_iconst (v := 0) (pc1 := 35) dX3_become_34 rfl (by decide) ?_
  refine g_aload_n (i := 0) (pc1 := 36) dX3_become_35 rfl rfl rfl ?_
  refine g_get (pc1 := 39) dX3_become_36 rfl flX3_9 rfl rfl ?_
  refine g_copy0 (pc1 := 42) dX3_become_39 rfl lkX3_26 rfl rfl (m := lg.length) (by omega) (by omega) (by decide) (Nat.le_of_ble_eq_true rfl) rfl ?_
  refine g_vret dX3_become_42 rfl (Nat.le_of_ble_eq_true rfl) (Nat.le_of_ble_eq_true rfl) ?_
  refine ⟨rfl, (nI lg.length, va_cpy fo fo2 0 0 lg.length, va_cpy fn fn2 0 0 lg.length), ⟨rfl, hl, fun i a b hi => ?_⟩, rfl⟩
  have h1 : i < lg.length := (List.getElem?_eq_some_iff.mp hi).1
  show va_cpy fo fo2 0 0 lg.length i = a ∧ va_cpy fn fn2 0 0 lg.length i = b
  rw [pk_cpy_in (by omega) (by omega), pk_cpy_in (by omega) (by omega), show 0 + (i - 0) = i by omega]
  exact hL.2.2 i a b hi
end
