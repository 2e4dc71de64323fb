/-! ===== the reference: SEARCH with a stack of its own ===== -/
abbrev tSk : Type := List (Nat × Nat × Nat)
def fC (F : tF) (st : tSk) : Prop := F.2.2.2 = nI st.length ∧ st.length ≤ 30 ∧ ∀ i v c u, st[i]? = some (v, c, u) → F.1 i = nI v ∧ F.2.1 i = nI c ∧ F.2.2.1 i = nI u
theorem fC.push {f g h : fI} {d : Int32} {st : tSk} (hf : fC (f, g, h, d) st) (hl : st.length < 30) (v u : Nat) : fC (upd f st.length (nI v), upd g st.length 0, upd h st.length (nI u), nI (st.length + 1)) (st ++ [(v, 0, u)]) := by
  refine ⟨by rw [List.length_append]; rfl, by rw [List.length_append]; simp; omega, fun i a b c hi => ?_⟩
  show upd f st.length (nI v) i = nI a ∧ upd g st.length 0 i = nI b ∧ upd h st.length (nI u) i = nI c
  by_cases h1 : i < st.length
  · rw [List.getElem?_append_left h1] at hi
    rw [pk_un (by omega), pk_un (by omega), pk_un (by omega)]
    exact hf.2.2 i a b c hi
  · rw [List.getElem?_append_right (by omega)] at hi
    have h2 : i - st.length < 1 := (List.getElem?_eq_some_iff.mp hi).1
    have h3 : i = st.length := by omega
    subst h3
    rw [Nat.sub_self] at hi
    cases hi
    exact ⟨pk_us, pk_us, pk_us⟩
theorem fC.top {F : tF} {st : tSk} {v c u : Nat} (hf : fC F (st ++ [(v, c, u)])) : F.1 st.length = nI v ∧ F.2.1 st.length = nI c ∧ F.2.2.1 st.length = nI u ∧ F.2.2.2 = nI (st.length + 1) ∧ st.length < 30 := by
  have h := hf.2.2 st.length v c u (by rw [List.getElem?_append_right (Nat.le_refl _), Nat.sub_self]; rfl)
  have h1 := hf.1
  have h2 := hf.2.1
  rw [List.length_append] at h1 h2
  exact ⟨h.1, h.2.1, h.2.2, h1, by simp at h2; omega⟩
theorem fC.pop {f g h : fI} {d : Int32} {st : tSk} {v c u : Nat} (hf : fC (f, g, h, d) (st ++ [(v, c, u)])) : fC (f, g, h, nI st.length) st := by
  have h2 := hf.2.1
  rw [List.length_append] at h2
  refine ⟨rfl, by omega, fun i a b e hi => ?_⟩
  have hl := (List.getElem?_eq_some_iff.mp hi).1
  exact hf.2.2 i a b e (by rw [List.getElem?_append_left hl]; exact hi)
theorem fC.next {f g h : fI} {d : Int32} {st : tSk} {v c u : Nat} (hf : fC (f, g, h, d) (st ++ [(v, c, u)])) : fC (f, upd g st.length (nI (c + 1)), h, d) (st ++ [(v, c + 1, u)]) := by
  have ht := hf.top
  refine ⟨by have := hf.1; rw [List.length_append] at this ⊢; exact this, by have := hf.2.1; rw [List.length_append] at this ⊢; exact this, fun i a b e hi => ?_⟩
  show f i = nI a ∧ upd g st.length (nI (c + 1)) i = nI b ∧ h i = nI e
  by_cases h1 : i < st.length
  · rw [List.getElem?_append_left h1] at hi
    rw [pk_un (by omega)]
    exact hf.2.2 i a b e (by rw [List.getElem?_append_left h1]; exact hi)
  · rw [List.getElem?_append_right (by omega)] at hi
    have h2 : i - st.length < 1 := (List.getElem?_eq_some_iff.mp hi).1
    have h3 : i = st.length := by omega
    subst h3
    rw [Nat.sub_self] at hi
    cases hi
    exact ⟨ht.1, pk_us, ht.2.2.1⟩
theorem rL.app {f : fI} {d : Int32} {lg : tLog} (h : rL (f, d) lg) (hl : lg.length < 3000) (op y : Int32) : rL (upd (upd f (2 * lg.length) op) (2 * lg.length + 1) y, nI (lg.length + 1)) (lg ++ [(op, y)]) := by
  refine ⟨by rw [List.length_append]; rfl, by rw [List.length_append]; simp; omega, fun i a b hi => ?_⟩
  show upd (upd f (2 * lg.length) op) (2 * lg.length + 1) y (2 * i) = a ∧ upd (upd f (2 * lg.length) op) (2 * lg.length + 1) y (2 * i + 1) = b
  by_cases h1 : i < lg.length
  · rw [List.getElem?_append_left h1] at hi
    rw [pk_un (by omega), pk_un (by omega), pk_un (by omega), pk_un (by omega)]
    exact h.2.2 i a b hi
  · rw [List.getElem?_append_right (by omega)] at hi
    have h2 : i - lg.length < 1 := (List.getElem?_eq_some_iff.mp hi).1
    have h3 : i = lg.length := by omega
    subst h3
    rw [Nat.sub_self] at hi
    cases hi
    exact ⟨by rw [pk_un (by omega), pk_us], pk_us⟩
theorem ix2 (a : Nat) : (2 : Int32) * nI a = nI (2 * a) := by rw [show (2 : Int32) = nI 2 from rfl, pk_mul]
theorem ix21 (a : Nat) : (2 : Int32) * nI a + 1 = nI (2 * a + 1) := by rw [ix2, nI_1]
section
variable (x : Nat → aC) (n : Nat) (nr ot : fI) (L T : tW) (V : tM) (P : fI)
theorem r_write (N : tG) (Q : tQ) (F : tF) (W : tW) {lg : tLog} (hL : rL W lg) (op y : Int32) : aRet 0 0 0 mX8_write [.ref 24, .int op, .int y] (rp x N Q F W L T V P) (fun v g => (lg.length < 3000 ∧ v = some (.int 1) ∧ ∃ W' : tW, rL W' (lg ++ [(op, y)]) ∧ g = rp x N Q F W' L T V P) ∨ (¬ lg.length < 3000 ∧ v = some (.int 0) ∧ g = rp x N Q F W L T V P)) := by
  have hl := hL.2.1
  obtain ⟨f, d⟩ := W
  obtain rfl : d = nI lg.length := hL.1
  refine aRet.of (by decide) (Nat.le_of_ble_eq_true rfl) (a_ok2 rfl) ?_
  refine g_aload_n (i := 0) (pc1 := 1) dX8_write_0 rfl rfl rfl ?_
  refine g_get (pc1 := 4) dX8_write_1 rfl flX8_118 rfl rfl ?_
  refine g_sipush (v := 3000) (pc1 := 7) dX8_write_4 rfl (by decide) ?_
  have hiff : nI lg.length = 3000 ↔ lg.length = 3000 := nI_eq (a := lg.length) (b := 3000) (by omega) (by omega)
  refine g_icmp_ne (pc1 := 10) (tgt := 12) dX8_write_7 rfl (by decide) (fun c => ?_) (fun c => ?_)
  · have h1 : lg.length < 3000 := by
      have : ¬ lg.length = 3000 := fun q => c (hiff.mpr q)
      omega
    refine g_aload_n (i := 0) (pc1 := 13) dX8_write_12 rfl rfl rfl ?_
    refine g_get (pc1 := 16) dX8_write_13 rfl flX8_35 rfl rfl ?_
    refine g_iconst (v := 2) (pc1 := 17) dX8_write_16 rfl (by decide) ?_
    refine g_aload_n (i := 0) (pc1 := 18) dX8_write_17 rfl rfl rfl ?_
    refine g_get (pc1 := 21) dX8_write_18 rfl flX8_118 rfl rfl ?_
    refine g_imul (pc1 := 22) dX8_write_21 rfl ?_
    refine g_iload_n (i := 1) (pc1 := 23) dX8_write_22 rfl rfl rfl ?_
    refine g_iastJ (pc1 := 24) dX8_write_23 rfl rfl (ix2 _) (by omega) (by decide) ?_
    refine g_aload_n (i := 0) (pc1 := 25) dX8_write_24 rfl rfl rfl ?_
    refine g_get (pc1 := 28) dX8_write_25 rfl flX8_35 rfl rfl ?_
    refine g_iconst (v := 2) (pc1 := 29) dX8_write_28 rfl (by decide) ?_
    refine g_aload_n (i := 0) (pc1 := 30) dX8_write_29 rfl rfl rfl ?_
    refine g_get (pc1 := 33) dX8_write_30 rfl flX8_118 rfl rfl ?_
    refine g_imul (pc1 := 34) dX8_write_33 rfl ?_
    refine g_iconst (v := 1) (pc1 := 35) dX8_write_34 rfl (by decide) ?_
    refine g_iadd (pc1 := 36) dX8_write_35 rfl ?_
    refine g_iload_n (i := 2) (pc1 := 37) dX8_write_36 rfl rfl rfl ?_
    refine g_iastJ (pc1 := 38) dX8_write_37 rfl rfl (ix21 _) (by omega) (by decide) ?_
    refine g_aload_n (i := 0) (pc1 := 39) dX8_write_38 rfl rfl rfl ?_
    refine g_dup (pc1 := 40) dX8_write_39 rfl rfl ?_
    refine g_get (pc1 := 43) dX8_write_40 rfl flX8_118 rfl rfl ?_
    refine g_iconst (v := 1) (pc1 := 44) dX8_write_43 rfl (by decide) ?_
    refine g_iadd (pc1 := 45) dX8_write_44 rfl ?_
    refine g_puti (pc1 := 48) dX8_write_45 rfl flX8_118 rfl (Nat.le_of_ble_eq_true rfl) rfl rfl ?_
    refine g_iconst (v := 1) (pc1 := 49) dX8_write_48 rfl (by decide) ?_
    refine g_iret dX8_write_49 rfl rfl (Nat.le_of_ble_eq_true rfl) (Nat.le_of_ble_eq_true rfl) ?_
    exact Or.inl ⟨h1, rfl, (upd (upd f (2 * lg.length) op) (2 * lg.length + 1) y, nI lg.length + 1), by rw [nI_1]; exact hL.app h1 op y, rfl⟩
  · have h1 := hiff.mp c
    refine g_iconst (v := 0) (pc1 := 11) dX8_write_10 rfl (by decide) ?_
    refine g_iret dX8_write_11 rfl rfl (Nat.le_of_ble_eq_true rfl) (Nat.le_of_ble_eq_true rfl) ?_
    exact Or.inr ⟨by omega, rfl, rfl⟩
theorem r_enter (N : tG) (hN : N.1 = nI n) (hn : n ≤ 30) (cf sf : fI) (F : tF) (W : tW) {col : tCol} {u : Nat} (hc : rK cf col) (hok : Cok n col u) {st : tSk} (hF : fC F st) (hst : st.length < 30) (v : Nat) : aRet 1 0 0 mX8_enter [.ref 24, .int (nI v)] (rp x N (cf, sf) F W L T V P) (fun w g => w = none ∧ ∃ F' : tF, fC F' (st ++ [(v, 0, u)]) ∧ g = rp x N (cf, sf) F' W L T V P) := by
  obtain ⟨f, g, h, d⟩ := F
  obtain rfl : d = nI st.length := hF.1
  refine aRet.of (by decide) (Nat.le_of_ble_eq_true rfl) (a_ok2 rfl) ?_
  refine g_aload_n (i := 0) (pc1 := 1) dX8_enter_0 rfl rfl rfl ?_
  refine g_get (pc1 := 4) dX8_enter_1 rfl flX8_26 rfl rfl ?_
  refine g_aload_n (i := 0) (pc1 := 5) dX8_enter_4 rfl rfl rfl ?_
  refine g_get (pc1 := 8) dX8_enter_5 rfl flX8_121 rfl rfl ?_
  refine g_iload_n (i := 1) (pc1 := 9) dX8_enter_8 rfl rfl rfl ?_
  refine g_iastJ (pc1 := 10) dX8_enter_9 rfl rfl rfl (by omega) (by decide) ?_
  refine g_aload_n (i := 0) (pc1 := 11) dX8_enter_10 rfl rfl rfl ?_
  refine g_get (pc1 := 14) dX8_enter_11 rfl flX8_29 rfl rfl ?_
  refine g_aload_n (i := 0) (pc1 := 15) dX8_enter_14 rfl rfl rfl ?_
  refine g_get (pc1 := 18) dX8_enter_15 rfl flX8_121 rfl rfl ?_
  refine g_iconst (v := 0) (pc1 := 19) dX8_enter_18 rfl (by decide) ?_
  refine g_iastJ (pc1 := 20) dX8_enter_19 rfl rfl rfl (by omega) (by decide) ?_
  refine g_aload_n (i := 0) (pc1 := 21) dX8_enter_20 rfl rfl rfl ?_
  refine g_get (pc1 := 24) dX8_enter_21 rfl flX8_32 rfl rfl ?_
  refine g_aload_n (i := 0) (pc1 := 25) dX8_enter_24 rfl rfl rfl ?_
  refine g_get (pc1 := 28) dX8_enter_25 rfl flX8_121 rfl rfl ?_
  refine g_aload_n (i := 0) (pc1 := 29) dX8_enter_28 rfl rfl rfl ?_
  refine aGo.eq (h' := rp x N (cf, sf) (upd f st.length (nI v), upd g st.length 0, h, nI st.length) W L T V P) ?_ rfl rfl rfl
  refine g_V0 (M := mX8_standing) (pc1 := 32) dX8_enter_29 rfl lkX8_115 tmX8_standing rfl (r_standing x n cf sf (upd f st.length (nI v), upd g st.length 0, h, nI st.length) W L T V P N hN hn hc hok.c30) (Nat.le_of_ble_eq_true rfl) rfl (Nat.le_of_ble_eq_true rfl) (Nat.le_of_ble_eq_true rfl) ?_
  rintro _ _ ⟨rfl, rfl⟩
  rw [stN_u hok]
  show aGo _ 32 _ [.int (nI u), .int (nI st.length), .ref 32] _ _ _
  refine g_iastJ (pc1 := 33) dX8_enter_32 rfl rfl rfl (by omega) (by decide) ?_
  refine g_aload_n (i := 0) (pc1 := 34) dX8_enter_33 rfl rfl rfl ?_
  refine g_dup (pc1 := 35) dX8_enter_34 rfl rfl ?_
  refine g_get (pc1 := 38) dX8_enter_35 rfl flX8_121 rfl rfl ?_
  refine g_iconst (v := 1) (pc1 := 39) dX8_enter_38 rfl (by decide) ?_
  refine g_iadd (pc1 := 40) dX8_enter_39 rfl ?_
  refine g_puti (pc1 := 43) dX8_enter_40 rfl flX8_121 rfl (Nat.le_of_ble_eq_true rfl) rfl rfl ?_
  refine g_vret dX8_enter_43 rfl (Nat.le_of_ble_eq_true rfl) (Nat.le_of_ble_eq_true rfl) ?_
  refine ⟨rfl, (upd f st.length (nI v), upd g st.length 0, upd h st.length (nI u), nI st.length + 1), ?_, rfl⟩
  rw [nI_1]
  exact hF.push hst v u
/-- behind come() -/
def cmQ (A : Nat → Nat → Bool) (k : Nat) (col : tCol) (u : Nat) (lg : tLog) (st : tSk) (r : Option Value) (g : List aC) : Prop := ∃ (cf sf : fI) (F : tF) (W : tW), g = rp x (nI n, nr, ot) (cf, sf) F W L T V P ∧ rK cf col ∧
  ((chS n A col = none ∧ r = some (.int 1) ∧ rL W lg) ∨
   (∃ v T, chS n A col = some v ∧ tgt n A col k = some T ∧ lg.length < 3000 ∧ r = some (.int 0) ∧ fC F st ∧ rL W (lg ++ [(4, bS T)])) ∨
   (∃ v, chS n A col = some v ∧ tgt n A col k = none ∧ lg.length < 3000 ∧ r = some (.int 0) ∧ fC F (st ++ [(v, 0, u)]) ∧ rL W (lg ++ [(1, nI v)])) ∨
   (∃ v, chS n A col = some v ∧ ¬ lg.length < 3000 ∧ r = some (.int (-3))))
set_option maxHeartbeats 1000000 in
theorem r_come {A : Nat → Nat → Bool} (hg : rG (nI n, nr, ot) n A) (hk : Gok n A) {k : Nat} (hk30 : k ≤ 30) (cf sf : fI) (F : tF) (W : tW) {col : tCol} {u : Nat} (hc : rK cf col) (hok : Cok n col u) {lg : tLog} (hW : rL W lg) {st : tSk} (hF : fC F st) (hst : st.length + cnt (brP n col) n ≤ n) : aRet 5 0 0 mX8_come [.ref 24, .int (nI k)] (rp x (nI n, nr, ot) (cf, sf) F W L T V P) (cmQ x n nr ot L T V P A k col u lg st) := by
  have hn := hk.1
  refine aRet.of (by decide) (Nat.le_of_ble_eq_true rfl) (a_ok2 rfl) ?_
  refine g_aload_n (i := 0) (pc1 := 1) dX8_come_0 rfl rfl rfl ?_
  refine g_V0 (M := mX8_choice) (pc1 := 4) dX8_come_1 rfl lkX8_112 tmX8_choice rfl (r_choice x n nr ot cf sf F W L T V P hg hk hc hok.c30) (Nat.le_of_ble_eq_true rfl) rfl (Nat.le_of_ble_eq_true rfl) (Nat.le_of_ble_eq_true rfl) ?_
  rintro _ _ ⟨rfl, rfl⟩
  refine g_istore_n (i := 2) (pc1 := 5) dX8_come_4 rfl rfl (Nat.le_of_ble_eq_true rfl) ?_
  refine g_iload_n (i := 2) (pc1 := 6) dX8_come_5 rfl rfl rfl ?_
  cases hch : chS n A col with
  | none =>
    refine g_if_ge (pc1 := 9) (tgt := 11) dX8_come_6 rfl (by decide) (fun hbr9 => absurd hbr9 (by decide)) (fun _ => ?_)
    refine g_iconst (v := 1) (pc1 := 10) dX8_come_9 rfl (by decide) ?_
    refine g_iret dX8_come_10 rfl rfl (Nat.le_of_ble_eq_true rfl) (Nat.le_of_ble_eq_true rfl) ?_
    exact ⟨cf, sf, F, W, rfl, hc, Or.inl ⟨hch, rfl, hW⟩⟩
  | some v =>
    obtain ⟨hv, hv0⟩ := chS_some hch
    have hpos : 0 < cnt (brP n col) n := cnt_pos hv (by simp [brP, hv, hv0])
    refine g_if_ge (pc1 := 9) (tgt := 11) dX8_come_6 rfl (by decide) (fun _ => ?_) (fun hbr9 => absurd (nI_pos' (by omega)) hbr9)
    show aGo _ 11 [.ref 24, .int (nI k), .int (nI v), .null] _ _ _ _
    refine g_aload_n (i := 0) (pc1 := 12) dX8_come_11 rfl rfl rfl ?_
    refine g_iload_n (i := 1) (pc1 := 13) dX8_come_12 rfl rfl rfl ?_
    refine g_V1 (M := mX8_closing) (pc1 := 16) dX8_come_13 rfl lkX8_124 tmX8_closing rfl (r_closing x n nr ot cf sf F W L T V P hg hk hc hok.c30 hk30) (Nat.le_of_ble_eq_true rfl) rfl (Nat.le_of_ble_eq_true rfl) (Nat.le_of_ble_eq_true rfl) ?_
    rintro _ _ ⟨rfl, sf', rfl⟩
    refine g_istore_n (i := 3) (pc1 := 17) dX8_come_16 rfl rfl (Nat.le_of_ble_eq_true rfl) ?_
    refine g_iload_n (i := 3) (pc1 := 18) dX8_come_17 rfl rfl rfl ?_
    cases hT : tgt n A col k with
    | none =>
      refine g_if_eq (pc1 := 21) (tgt := 37) dX8_come_18 rfl (by decide) (fun _ => ?_) (fun hbr9 => absurd rfl hbr9)
      refine g_aload_n (i := 0) (pc1 := 38) dX8_come_37 rfl rfl rfl ?_
      refine g_iconst (v := 1) (pc1 := 39) dX8_come_38 rfl (by decide) ?_
      refine g_iload_n (i := 2) (pc1 := 40) dX8_come_39 rfl rfl rfl ?_
      refine g_V2 (M := mX8_write) (pc1 := 43) dX8_come_40 rfl lkX8_127 tmX8_write rfl (r_write x L T V P (nI n, nr, ot) (cf, sf') F W hW 1 (nI v)) (Nat.le_of_ble_eq_true rfl) rfl (Nat.le_of_ble_eq_true rfl) (Nat.le_of_ble_eq_true rfl) ?_
      rintro _ _ (⟨e1, rfl, W', e2, rfl⟩ | ⟨e1, rfl, rfl⟩)
      · refine g_if_ne (pc1 := 46) (tgt := 49) dX8_come_43 rfl (by decide) (fun _ => ?_) (fun hbr9 => absurd hbr9 (by decide))
        refine g_aload_n (i := 0) (pc1 := 50) dX8_come_49 rfl rfl rfl ?_
        refine g_iload_n (i := 2) (pc1 := 51) dX8_come_50 rfl rfl rfl ?_
        refine g_V1 (M := mX8_enter) (pc1 := 54) dX8_come_51 rfl lkX8_130 tmX8_enter rfl (r_enter x n L T V P (nI n, nr, ot) rfl hn cf sf' F W' hc hok hF (by omega) v) (Nat.le_of_ble_eq_true rfl) rfl (Nat.le_of_ble_eq_true rfl) (Nat.le_of_ble_eq_true rfl) ?_
        rintro _ _ ⟨rfl, F', hF', rfl⟩
        show aGo _ 54 _ [] _ _ _
        refine g_iconst (v := 0) (pc1 := 55) dX8_come_54 rfl (by decide) ?_
        refine g_iret dX8_come_55 rfl rfl (Nat.le_of_ble_eq_true rfl) (Nat.le_of_ble_eq_true rfl) ?_
        exact ⟨cf, sf', F', W', rfl, hc, Or.inr (Or.inr (Or.inl ⟨v, hch, hT, e1, rfl, hF', e2⟩))⟩
      · refine g_if_ne (pc1 := 46) (tgt := 49) dX8_come_43 rfl (by decide) (fun hbr9 => absurd hbr9 (fun q => q rfl)) (fun _ => ?_)
        refine g_bipush (v := (-3)) (pc1 := 48) dX8_come_46 rfl (by decide) ?_
        refine g_iret dX8_come_48 rfl rfl (Nat.le_of_ble_eq_true rfl) (Nat.le_of_ble_eq_true rfl) ?_
        exact ⟨cf, sf', F, W, rfl, hc, Or.inr (Or.inr (Or.inr ⟨v, hch, e1, rfl⟩))⟩
    | some T' =>
      have hTne : ¬ enT (some T') = 0 := by
        intro h0
        have h1 := bS_eq0.mp h0
        obtain ⟨v', hv'⟩ := tg_ne hk.1 (show tg n A col k n 0 = some T' from hT)
        rw [h1 v' (by omega)] at hv'
        cases hv'.2
      refine g_if_eq (pc1 := 21) (tgt := 37) dX8_come_18 rfl (by decide) (fun hbr9 => absurd hbr9 hTne) (fun _ => ?_)
      show aGo _ 21 [.ref 24, .int (nI k), .int (nI v), .int (bS T')] _ _ _ _
      refine g_aload_n (i := 0) (pc1 := 22) dX8_come_21 rfl rfl rfl ?_
      refine g_iconst (v := 4) (pc1 := 23) dX8_come_22 rfl (by decide) ?_
      refine g_iload_n (i := 3) (pc1 := 24) dX8_come_23 rfl rfl rfl ?_
      refine g_V2 (M := mX8_write) (pc1 := 27) dX8_come_24 rfl lkX8_127 tmX8_write rfl (r_write x L T V P (nI n, nr, ot) (cf, sf') F W hW 4 (bS T')) (Nat.le_of_ble_eq_true rfl) rfl (Nat.le_of_ble_eq_true rfl) (Nat.le_of_ble_eq_true rfl) ?_
      rintro _ _ (⟨e1, rfl, W', e2, rfl⟩ | ⟨e1, rfl, rfl⟩)
      · refine g_if_eq (pc1 := 30) (tgt := 34) dX8_come_27 rfl (by decide) (fun hbr9 => absurd hbr9 (by decide)) (fun _ => ?_)
        refine g_iconst (v := 0) (pc1 := 31) dX8_come_30 rfl (by decide) ?_
        refine g_goto (tgt := 36) dX8_come_31 (by decide) ?_
        refine g_iret dX8_come_36 rfl rfl (Nat.le_of_ble_eq_true rfl) (Nat.le_of_ble_eq_true rfl) ?_
        exact ⟨cf, sf', F, W', rfl, hc, Or.inr (Or.inl ⟨v, T', hch, hT, e1, rfl, hF, e2⟩)⟩
      · refine g_if_eq (pc1 := 30) (tgt := 34) dX8_come_27 rfl (by decide) (fun _ => ?_) (fun hbr9 => absurd rfl hbr9)
        refine g_bipush (v := (-3)) (pc1 := 36) dX8_come_34 rfl (by decide) ?_
        refine g_iret dX8_come_36 rfl rfl (Nat.le_of_ble_eq_true rfl) (Nat.le_of_ble_eq_true rfl) ?_
        exact ⟨cf, sf', F, W, rfl, hc, Or.inr (Or.inr (Or.inr ⟨v, hch, e1, rfl⟩))⟩
/-- behind goOn(), with the frame (v, c, u) on top -/
def goQ (A : Nat → Nat → Bool) (k : Nat) (col : tCol) (u v c : Nat) (lg : tLog) (st : tSk) (r : Option Value) (g : List aC) : Prop := ∃ (cf sf : fI) (F : tF) (W : tW), g = rp x (nI n, nr, ot) (cf, sf) F W L T V P ∧
  ((¬ (c < k ∧ c ≤ u) ∧ r = some (.int 0) ∧ rK cf col ∧ fC F st ∧ rL W lg) ∨
   ((c < k ∧ c ≤ u) ∧ hC n A col v c = true ∧ lg.length < 3000 ∧ r = some (.int 0) ∧ rK cf col ∧ fC F (st ++ [(v, c + 1, u)]) ∧ rL W (lg ++ [(2, nI (nbW n A col v c))])) ∨
   ((c < k ∧ c ≤ u) ∧ hC n A col v c = false ∧ lg.length < 3000 ∧ r = some (.int 1) ∧ rK cf (cset col v c) ∧ fC F (st ++ [(v, c + 1, u)]) ∧ rL W (lg ++ [(3, nI c)])) ∨
   ((c < k ∧ c ≤ u) ∧ ¬ lg.length < 3000 ∧ r = some (.int (-3))))
set_option maxHeartbeats 1000000 in
theorem r_goOn {A : Nat → Nat → Bool} (hg : rG (nI n, nr, ot) n A) (hk : Gok n A) {k : Nat} (hk30 : k ≤ 30) (cf sf : fI) (F : tF) (W : tW) {col : tCol} {u v c : Nat} (hv : v < n) (hv0 : col v = none) (hc : ∀ w, w < 30 → w ≠ v → cf w = enO (col w)) (hok : Cok n col u) (hcl : c ≤ 31) {lg : tLog} (hW : rL W lg) {st : tSk} (hF : fC F (st ++ [(v, c, u)])) : aRet 2 0 0 mX8_goOn [.ref 24, .int (nI k)] (rp x (nI n, nr, ot) (cf, sf) F W L T V P) (goQ x n nr ot L T V P A k col u v c lg st) := by
  have hn := hk.1
  have hun := hok.le
  obtain ⟨f, g, h, d⟩ := F
  obtain ⟨t1, t2, t3, t4, t5⟩ := hF.top
  obtain rfl : d = nI (st.length + 1) := t4
  dsimp only at t1 t2 t3
  have hcK : rK (upd cf v (-1)) col := by
    intro w hw
    by_cases e : w = v
    · subst e; rw [pk_us, hv0]; rfl
    · rw [pk_un e]; exact hc w hw e
  refine aRet.of (by decide) (Nat.le_of_ble_eq_true rfl) (a_ok2 rfl) ?_
  refine g_aload_n (i := 0) (pc1 := 1) dX8_goOn_0 rfl rfl rfl ?_
  refine g_get (pc1 := 4) dX8_goOn_1 rfl flX8_121 rfl rfl ?_
  refine g_iconst (v := 1) (pc1 := 5) dX8_goOn_4 rfl (by decide) ?_
  refine g_isub (pc1 := 6) dX8_goOn_5 rfl ?_
  dsimp only
  rw [nI_pred]
  refine g_istore_n (i := 2) (pc1 := 7) dX8_goOn_6 rfl rfl (Nat.le_of_ble_eq_true rfl) ?_
  refine g_aload_n (i := 0) (pc1 := 8) dX8_goOn_7 rfl rfl rfl ?_
  refine g_get (pc1 := 11) dX8_goOn_8 rfl flX8_26 rfl rfl ?_
  refine g_iload_n (i := 2) (pc1 := 12) dX8_goOn_11 rfl rfl rfl ?_
  refine g_ialdJ (pc1 := 13) dX8_goOn_12 rfl rfl rfl (by omega) (by decide) ?_
  dsimp only
  rw [t1]
  refine g_istore_n (i := 3) (pc1 := 14) dX8_goOn_13 rfl rfl (Nat.le_of_ble_eq_true rfl) ?_
  refine g_aload_n (i := 0) (pc1 := 15) dX8_goOn_14 rfl rfl rfl ?_
  refine g_get (pc1 := 18) dX8_goOn_15 rfl flX8_29 rfl rfl ?_
  refine g_iload_n (i := 2) (pc1 := 19) dX8_goOn_18 rfl rfl rfl ?_
  refine g_ialdJ (pc1 := 20) dX8_goOn_19 rfl rfl rfl (by omega) (by decide) ?_
  dsimp only
  rw [t2]
  refine g_istore (pc1 := 22) dX8_goOn_20 rfl (Nat.le_of_ble_eq_true rfl) ?_
  refine g_aload_n (i := 0) (pc1 := 23) dX8_goOn_22 rfl rfl rfl ?_
  refine g_get (pc1 := 26) dX8_goOn_23 rfl flX8_16 rfl rfl ?_
  refine g_iload_n (i := 3) (pc1 := 27) dX8_goOn_26 rfl rfl rfl ?_
  refine g_iconst (v := (-1)) (pc1 := 28) dX8_goOn_27 rfl (by decide) ?_
  refine g_iastJ (pc1 := 29) dX8_goOn_28 rfl rfl rfl (by omega) (by decide) ?_
  refine g_iload (pc1 := 31) dX8_goOn_29 rfl rfl ?_
  refine g_iload_n (i := 1) (pc1 := 32) dX8_goOn_31 rfl rfl rfl ?_
  have pop : ¬ (c < k ∧ c ≤ u) → aGo (2, 0, 0, mX8_goOn, none, goQ x n nr ot L T V P A k col u v c lg st) 46 [.ref 24, .int (nI k), .int (nI st.length), .int (nI v), .int (nI c), .null] [] (rp x (nI n, nr, ot) (upd cf v (-1), sf) (f, g, h, nI (st.length + 1)) W L T V P) 0 0 := by
    intro hno
    refine g_aload_n (i := 0) (pc1 := 47) dX8_goOn_46 rfl rfl rfl ?_
    refine g_dup (pc1 := 48) dX8_goOn_47 rfl rfl ?_
    refine g_get (pc1 := 51) dX8_goOn_48 rfl flX8_121 rfl rfl ?_
    refine g_iconst (v := 1) (pc1 := 52) dX8_goOn_51 rfl (by decide) ?_
    refine g_isub (pc1 := 53) dX8_goOn_52 rfl ?_
    refine g_puti (pc1 := 56) dX8_goOn_53 rfl flX8_121 rfl (Nat.le_of_ble_eq_true rfl) rfl rfl ?_
    refine g_iconst (v := 0) (pc1 := 57) dX8_goOn_56 rfl (by decide) ?_
    refine g_iret dX8_goOn_57 rfl rfl (Nat.le_of_ble_eq_true rfl) (Nat.le_of_ble_eq_true rfl) ?_
    refine ⟨upd cf v (-1), sf, (f, g, h, nI st.length), W, ?_, Or.inl ⟨hno, rfl, hcK, hF.pop, hW⟩⟩
    rw [← nI_pred st.length]
    rfl
  refine g_icmp_ge (pc1 := 35) (tgt := 46) dX8_goOn_32 rfl (by decide) (fun c1 => ?_) (fun c1 => ?_)
  · have := (nI_leI (a := k) (b := c) (by omega) (by omega)).mp c1
    exact pop (by omega)
  · have hck : ¬ k ≤ c := fun q => c1 ((nI_leI (a := k) (b := c) (by omega) (by omega)).mpr q)
    refine g_iload (pc1 := 37) dX8_goOn_35 rfl rfl ?_
    refine g_aload_n (i := 0) (pc1 := 38) dX8_goOn_37 rfl rfl rfl ?_
    refine g_get (pc1 := 41) dX8_goOn_38 rfl flX8_32 rfl rfl ?_
    refine g_iload_n (i := 2) (pc1 := 42) dX8_goOn_41 rfl rfl rfl ?_
    refine g_ialdJ (pc1 := 43) dX8_goOn_42 rfl rfl rfl (by omega) (by decide) ?_
    dsimp only
    rw [t3]
    refine g_icmp_le (pc1 := 46) (tgt := 58) dX8_goOn_43 rfl (by decide) (fun c2 => ?_) (fun c2 => ?_)
    · have hcu := (nI_leI (a := c) (b := u) (by omega) (by omega)).mp c2
      have hcond : c < k ∧ c ≤ u := ⟨by omega, hcu⟩
      refine g_aload_n (i := 0) (pc1 := 59) dX8_goOn_58 rfl rfl rfl ?_
      refine g_get (pc1 := 62) dX8_goOn_59 rfl flX8_29 rfl rfl ?_
      refine g_iload_n (i := 2) (pc1 := 63) dX8_goOn_62 rfl rfl rfl ?_
      refine g_dup2 (pc1 := 64) dX8_goOn_63 rfl rfl rfl ?_
      refine g_ialdJ (pc1 := 65) dX8_goOn_64 rfl rfl rfl (by omega) (by decide) ?_
      refine g_iconst (v := 1) (pc1 := 66) dX8_goOn_65 rfl (by decide) ?_
      refine g_iadd (pc1 := 67) dX8_goOn_66 rfl ?_
      dsimp only
      rw [t2, nI_1]
      refine g_iastJ (pc1 := 68) dX8_goOn_67 rfl rfl rfl (by omega) (by decide) ?_
      refine g_aload_n (i := 0) (pc1 := 69) dX8_goOn_68 rfl rfl rfl ?_
      refine g_iload_n (i := 3) (pc1 := 70) dX8_goOn_69 rfl rfl rfl ?_
      refine g_iload (pc1 := 72) dX8_goOn_70 rfl rfl ?_
      refine aGo.eq (h' := rp x (nI n, nr, ot) (upd cf v (-1), sf) (f, upd g st.length (nI (c + 1)), h, nI (st.length + 1)) W L T V P) ?_ rfl rfl rfl
      refine g_V2 (M := mX8_neighbourWith) (pc1 := 75) dX8_goOn_72 rfl lkX8_84 tmX8_neighbourWith rfl (r_neighbourWith x n nr ot (upd cf v (-1)) sf (f, upd g st.length (nI (c + 1)), h, nI (st.length + 1)) W L T V P hg hn hcK hok.c30 (v := v) (c := c) (by omega) (by omega)) (Nat.le_of_ble_eq_true rfl) rfl (Nat.le_of_ble_eq_true rfl) (Nat.le_of_ble_eq_true rfl) ?_
      rintro _ _ ⟨rfl, rfl⟩
      have hneg := enL_neg hn (nbW_le n A col v c)
      refine g_istore (pc1 := 77) dX8_goOn_75 rfl (Nat.le_of_ble_eq_true rfl) ?_
      refine g_iload (pc1 := 79) dX8_goOn_77 rfl rfl ?_
      refine g_if_lt (pc1 := 82) (tgt := 99) dX8_goOn_79 rfl (by decide) (fun c3 => ?_) (fun c3 => ?_)
      · have h0 : hC n A col v c = false := by
          cases h : hC n A col v c with
          | false => rfl
          | true => exact absurd (nbW_hC.mpr h) (hneg.mp c3)
        refine g_aload_n (i := 0) (pc1 := 100) dX8_goOn_99 rfl rfl rfl ?_
        refine g_iconst (v := 3) (pc1 := 101) dX8_goOn_100 rfl (by decide) ?_
        refine g_iload (pc1 := 103) dX8_goOn_101 rfl rfl ?_
        refine g_V2 (M := mX8_write) (pc1 := 106) dX8_goOn_103 rfl lkX8_127 tmX8_write rfl (r_write x L T V P (nI n, nr, ot) (upd cf v (-1), sf) (f, upd g st.length (nI (c + 1)), h, nI (st.length + 1)) W hW 3 (nI c)) (Nat.le_of_ble_eq_true rfl) rfl (Nat.le_of_ble_eq_true rfl) (Nat.le_of_ble_eq_true rfl) ?_
        rintro _ _ (⟨e1, rfl, W', e2, rfl⟩ | ⟨e1, rfl, rfl⟩)
        · refine g_if_ne (pc1 := 109) (tgt := 112) dX8_goOn_106 rfl (by decide) (fun _ => ?_) (fun hbr9 => absurd hbr9 (by decide))
          refine g_aload_n (i := 0) (pc1 := 113) dX8_goOn_112 rfl rfl rfl ?_
          refine g_get (pc1 := 116) dX8_goOn_113 rfl flX8_16 rfl rfl ?_
          refine g_iload_n (i := 3) (pc1 := 117) dX8_goOn_116 rfl rfl rfl ?_
          refine g_iload (pc1 := 119) dX8_goOn_117 rfl rfl ?_
          refine g_iastJ (pc1 := 120) dX8_goOn_119 rfl rfl rfl (by omega) (by decide) ?_
          refine g_iconst (v := 1) (pc1 := 121) dX8_goOn_120 rfl (by decide) ?_
          refine g_iret dX8_goOn_121 rfl rfl (Nat.le_of_ble_eq_true rfl) (Nat.le_of_ble_eq_true rfl) ?_
          refine ⟨upd (upd cf v (-1)) v (nI c), sf, (f, upd g st.length (nI (c + 1)), h, nI (st.length + 1)), W', rfl, Or.inr (Or.inr (Or.inl ⟨hcond, h0, e1, rfl, rK_set hcK v c, hF.next, e2⟩))⟩
        · refine g_if_ne (pc1 := 109) (tgt := 112) dX8_goOn_106 rfl (by decide) (fun hbr9 => absurd hbr9 (fun q => q rfl)) (fun _ => ?_)
          refine g_bipush (v := (-3)) (pc1 := 111) dX8_goOn_109 rfl (by decide) ?_
          refine g_iret dX8_goOn_111 rfl rfl (Nat.le_of_ble_eq_true rfl) (Nat.le_of_ble_eq_true rfl) ?_
          exact ⟨_, _, _, _, rfl, Or.inr (Or.inr (Or.inr ⟨hcond, e1, rfl⟩))⟩
      · have hlt : nbW n A col v c < n := Classical.byContradiction fun q => c3 (hneg.mpr q)
        have h0 := nbW_hC.mp hlt
        rw [show enL n (nbW n A col v c) = nI (nbW n A col v c) from if_pos hlt]
        refine g_aload_n (i := 0) (pc1 := 83) dX8_goOn_82 rfl rfl rfl ?_
        refine g_iconst (v := 2) (pc1 := 84) dX8_goOn_83 rfl (by decide) ?_
        refine g_iload (pc1 := 86) dX8_goOn_84 rfl rfl ?_
        refine g_V2 (M := mX8_write) (pc1 := 89) dX8_goOn_86 rfl lkX8_127 tmX8_write rfl (r_write x L T V P (nI n, nr, ot) (upd cf v (-1), sf) (f, upd g st.length (nI (c + 1)), h, nI (st.length + 1)) W hW 2 (nI (nbW n A col v c))) (Nat.le_of_ble_eq_true rfl) rfl (Nat.le_of_ble_eq_true rfl) (Nat.le_of_ble_eq_true rfl) ?_
        rintro _ _ (⟨e1, rfl, W', e2, rfl⟩ | ⟨e1, rfl, rfl⟩)
        · refine g_if_eq (pc1 := 92) (tgt := 96) dX8_goOn_89 rfl (by decide) (fun hbr9 => absurd hbr9 (by decide)) (fun _ => ?_)
          refine g_iconst (v := 0) (pc1 := 93) dX8_goOn_92 rfl (by decide) ?_
          refine g_goto (tgt := 98) dX8_goOn_93 (by decide) ?_
          refine g_iret dX8_goOn_98 rfl rfl (Nat.le_of_ble_eq_true rfl) (Nat.le_of_ble_eq_true rfl) ?_
          exact ⟨upd cf v (-1), sf, (f, upd g st.length (nI (c + 1)), h, nI (st.length + 1)), W', rfl, Or.inr (Or.inl ⟨hcond, h0, e1, rfl, hcK, hF.next, e2⟩)⟩
        · refine g_if_eq (pc1 := 92) (tgt := 96) dX8_goOn_89 rfl (by decide) (fun _ => ?_) (fun hbr9 => absurd rfl hbr9)
          refine g_bipush (v := (-3)) (pc1 := 98) dX8_goOn_96 rfl (by decide) ?_
          refine g_iret dX8_goOn_98 rfl rfl (Nat.le_of_ble_eq_true rfl) (Nat.le_of_ble_eq_true rfl) ?_
          exact ⟨_, _, _, _, rfl, Or.inr (Or.inr (Or.inr ⟨hcond, e1, rfl⟩))⟩
    · have hcu : ¬ c ≤ u := fun q => c2 ((nI_leI (a := c) (b := u) (by omega) (by omega)).mpr q)
      exact pop (by omega)
end
