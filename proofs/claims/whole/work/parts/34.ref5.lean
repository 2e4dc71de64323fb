/-! ===== the reference: closing, the clique, the first colouring ===== -/
theorem cnt_rm {p : Nat → Bool} {v n : Nat} (hp : p v = true) (hv : v < n) : cnt (fun j => p j && !decide (j = v)) n + 1 = cnt p n := by
  rw [← cnt_ins (p := fun j => p j && !decide (j = v)) (v := v) (by simp) hv]
  exact cnt_congr fun i _ => by
    by_cases h : i = v
    · subst h; simp [hp]
    · simp [h]
theorem rS_ins {sf : fI} {sp : Nat → Bool} (h : rS sf sp) (v : Nat) : rS (upd sf v 1) (fun j => sp j || decide (j = v)) := by
  intro w hw
  by_cases e : w = v
  · subst e; rw [pk_us]; simp [bI]
  · rw [pk_un e, h w hw]; simp [e]
section
variable {n : Nat} {A : Nat → Nat → Bool} {f : Nat → Nat} {col : tCol} {sp : Nat → Bool} {i : Nat}
/-- the next of all that were not seen: is it a neighbour of all that are taken, it is the next of the class's walk -/
theorem nxt_in (hk : Gok n A) (hO : ∀ j, (clq A f n (brP n col) i).2 j = true → sp j = false) {v : Nat} (hv : amx (fun v => !sp v && brP n col v) f n = some v) (hnr : nrA n A v (clq A f n (brP n col) i).1 = true) : amx (clq A f n (brP n col) i).2 f n = some v := by
  obtain ⟨g1, g2, g3, g4⟩ := amx_some hv
  simp only [Bool.and_eq_true] at g2
  have hin : ∀ j, (clq A f n (brP n col) i).2 j = true → (!sp j && brP n col j) = true := fun j hj => by
    rw [hO j hj, ((clq_O i j).mp hj).1]; rfl
  refine amx_eq g1 ((clq_O i v).mpr ⟨g2.2, fun w hw => ?_⟩) (fun j hj hjo => g3 j hj (hin j hjo)) (fun j hj hjo => g4 j hj (hin j hjo))
  unfold nrA at hnr
  simp only [Bool.not_eq_true'] at hnr
  have := ex_false.mp hnr w (clq_T i w hw)
  rw [hw] at this
  simp only [Bool.true_and, Bool.not_eq_false'] at this
  rw [hk.2.1]; exact this
theorem nxt_out (hk : Gok n A) {v : Nat} (hnr : nrA n A v (clq A f n (brP n col) i).1 = false) : (clq A f n (brP n col) i).2 v = false := by
  unfold nrA at hnr
  simp only [Bool.not_eq_false'] at hnr
  obtain ⟨w, h1, h2⟩ := ex_iff.mp hnr
  simp only [Bool.and_eq_true, Bool.not_eq_true'] at h2
  cases h : (clq A f n (brP n col) i).2 v with
  | false => rfl
  | true =>
    have := ((clq_O i v).mp h).2 w h2.1
    rw [hk.2.1, h2.2] at this
    cases this
theorem nxt_none (hO : ∀ j, (clq A f n (brP n col) i).2 j = true → sp j = false) (hv : amx (fun v => !sp v && brP n col v) f n = none) : amx (clq A f n (brP n col) i).2 f n = none := by
  refine amx_none.mpr fun j hj => ?_
  cases h : (clq A f n (brP n col) i).2 j with
  | false => rfl
  | true =>
    have h1 := amx_none.mp hv j hj
    rw [hO j h, ((clq_O i j).mp h).1] at h1
    cases h1
end
section
variable (x : Nat → aC) (n : Nat) (nr ot : fI) (cf sf : fI) (F : tF) (W L T : tW) (V : tM) (P : fI)
set_option maxHeartbeats 1000000 in
theorem r_closing {A : Nat → Nat → Bool} (hg : rG (nI n, nr, ot) n A) (hk : Gok n A) {col : tCol} (hc : rK cf col) (h30 : c30 col) {k : Nat} (hk30 : k ≤ 30) : aRet 4 0 0 mX8_closing [.ref 24, .int (nI k)] (rp x (nI n, nr, ot) (cf, sf) F W L T V P) (fun w g => w = some (.int (enT (tgt n A col k))) ∧ ∃ sf' : fI, g = rp x (nI n, nr, ot) (cf, sf') F W L T V P) := by
  have hn := hk.1
  refine aRet.of (by decide) (Nat.le_of_ble_eq_true rfl) (a_ok2 rfl) ?_
  refine g_aload_n (i := 0) (pc1 := 1) dX8_closing_0 rfl rfl rfl ?_
  refine g_V0 (M := mX8_clearSeen) (pc1 := 4) dX8_closing_1 rfl lkX8_93 tmX8_clearSeen rfl (r_clearSeen x cf sf F W L T V P (nI n, nr, ot)) (Nat.le_of_ble_eq_true rfl) rfl (Nat.le_of_ble_eq_true rfl) (Nat.le_of_ble_eq_true rfl) ?_
  rintro _ _ ⟨rfl, rfl⟩
  have hs0 : rS (fil 30 0 sf) (fun _ => false) := fun v hv => by simp [fil, hv, bI]
  show aGo _ 4 _ [] _ _ _
  refine g_iconst (v := 0) (pc1 := 5) dX8_closing_4 rfl (by decide) ?_
  refine g_istore_n (i := 2) (pc1 := 6) dX8_closing_5 rfl rfl (Nat.le_of_ble_eq_true rfl) ?_
  refine g_aload_n (i := 0) (pc1 := 7) dX8_closing_6 rfl rfl rfl ?_
  refine g_iconst (v := 1) (pc1 := 8) dX8_closing_7 rfl (by decide) ?_
  refine g_V1 (M := mX8_firstLeft) (pc1 := 11) dX8_closing_8 rfl lkX8_96 tmX8_firstLeft rfl (r_firstLeft x n nr ot cf (fil 30 0 sf) F W L T V P hg hk hc h30 hs0 true) (Nat.le_of_ble_eq_true rfl) rfl (Nat.le_of_ble_eq_true rfl) (Nat.le_of_ble_eq_true rfl) ?_
  rintro _ _ ⟨rfl, rfl⟩
  refine g_istore_n (i := 3) (pc1 := 12) dX8_closing_11 rfl rfl (Nat.le_of_ble_eq_true rfl) ?_
  rw [bS_0]
  have key : ∀ (m : Nat) (sp : Nat → Bool) (sf : fI) (i : Nat), rS sf sp → cnt (fun j => !sp j && brP n col j) n ≤ m → (∀ j, (tcl n A col i).2 j = true → sp j = false) → cnt (tcl n A col i).1 32 = i → tgt n A col k = tg n A col k (n - i) i →
      aGo (4, 0, 0, mX8_closing, none, fun w g => w = some (.int (enT (tgt n A col k))) ∧ ∃ sf' : fI, g = rp x (nI n, nr, ot) (cf, sf') F W L T V P) 12 [.ref 24, .int (nI k), .int (bS (tcl n A col i).1), .int (enO (amx (fun v => !sp v && brP n col v) (foF n A col) n))] [] (rp x (nI n, nr, ot) (cf, sf) F W L T V P) 0 0 := by
    intro m
    induction m with
    | zero =>
      intro sp sf i hs hm hO hT ht
      have hz : amx (fun v => !sp v && brP n col v) (foF n A col) n = none := amx_none.mpr fun j hj => by
        cases h : (!sp j && brP n col j) with
        | false => rfl
        | true => have := cnt_pos (p := fun j => !sp j && brP n col j) hj h; exact absurd this (Nat.not_lt.mpr hm)
      rw [hz]
      refine g_iload_n (i := 3) (pc1 := 13) dX8_closing_12 rfl rfl rfl ?_
      refine g_if_lt (pc1 := 16) (tgt := 62) dX8_closing_13 rfl (by decide) (fun _ => ?_) (fun hbr9 => absurd (by decide) hbr9)
      refine g_iconst (v := 0) (pc1 := 63) dX8_closing_62 rfl (by decide) ?_
      refine g_iret dX8_closing_63 rfl rfl (Nat.le_of_ble_eq_true rfl) (Nat.le_of_ble_eq_true rfl) ?_
      refine ⟨?_, sf, rfl⟩
      rw [ht]
      have hno := nxt_none (i := i) hO hz
      cases n - i with
      | zero => rfl
      | succ d => unfold tg; rw [hno]; rfl
    | succ m ih =>
      intro sp sf i hs hm hO hT ht
      cases hv : amx (fun v => !sp v && brP n col v) (foF n A col) n with
      | none =>
        refine g_iload_n (i := 3) (pc1 := 13) dX8_closing_12 rfl rfl rfl ?_
        refine g_if_lt (pc1 := 16) (tgt := 62) dX8_closing_13 rfl (by decide) (fun _ => ?_) (fun hbr9 => absurd (by decide) hbr9)
        refine g_iconst (v := 0) (pc1 := 63) dX8_closing_62 rfl (by decide) ?_
        refine g_iret dX8_closing_63 rfl rfl (Nat.le_of_ble_eq_true rfl) (Nat.le_of_ble_eq_true rfl) ?_
        refine ⟨?_, sf, rfl⟩
        rw [ht]
        have hno := nxt_none (i := i) hO hv
        cases n - i with
        | zero => rfl
        | succ d => unfold tg; rw [hno]; rfl
      | some v =>
        obtain ⟨g1, g2, -⟩ := amx_some hv
        have hs' := rS_ins hs v
        have hcn := cnt_rm (p := fun j => !sp j && brP n col j) g2 g1
        have hm' : cnt (fun j => !(sp j || decide (j = v)) && brP n col j) n ≤ m := by
          have e : cnt (fun j => !(sp j || decide (j = v)) && brP n col j) n = cnt (fun j => (!sp j && brP n col j) && !decide (j = v)) n := cnt_congr fun j _ => by
            cases sp j <;> cases brP n col j <;> cases decide (j = v) <;> rfl
          omega
        -- on to the next one, with the walk at i'
        have nx : ∀ (i' : Nat), (∀ j, (tcl n A col i').2 j = true → (sp j || decide (j = v)) = false) → cnt (tcl n A col i').1 32 = i' → tgt n A col k = tg n A col k (n - i') i' → aGo (4, 0, 0, mX8_closing, none, fun w g => w = some (.int (enT (tgt n A col k))) ∧ ∃ sf' : fI, g = rp x (nI n, nr, ot) (cf, sf') F W L T V P) 53 [.ref 24, .int (nI k), .int (bS (tcl n A col i').1), .int (nI v)] [] (rp x (nI n, nr, ot) (cf, upd sf v 1) F W L T V P) 0 0 := by
          intro i' h1 h2 h3
          refine g_aload_n (i := 0) (pc1 := 54) dX8_closing_53 rfl rfl rfl ?_
          refine g_iconst (v := 1) (pc1 := 55) dX8_closing_54 rfl (by decide) ?_
          refine g_V1 (M := mX8_firstLeft) (pc1 := 58) dX8_closing_55 rfl lkX8_96 tmX8_firstLeft rfl (r_firstLeft x n nr ot cf (upd sf v 1) F W L T V P hg hk hc h30 hs' true) (Nat.le_of_ble_eq_true rfl) rfl (Nat.le_of_ble_eq_true rfl) (Nat.le_of_ble_eq_true rfl) ?_
          rintro _ _ ⟨rfl, rfl⟩
          refine g_istore_n (i := 3) (pc1 := 59) dX8_closing_58 rfl rfl (Nat.le_of_ble_eq_true rfl) ?_
          refine g_goto (tgt := 12) dX8_closing_59 (by decide) ?_
          exact aGo.eq (ih _ _ i' hs' hm' h1 h2 h3) rfl rfl rfl
        refine g_iload_n (i := 3) (pc1 := 13) dX8_closing_12 rfl rfl rfl ?_
        refine g_if_lt (pc1 := 16) (tgt := 62) dX8_closing_13 rfl (by decide) (fun hbr9 => absurd hbr9 (nI_pos (by omega))) (fun _ => ?_)
        show aGo _ 16 [.ref 24, .int (nI k), .int (bS (tcl n A col i).1), .int (nI v)] _ _ _ _
        refine g_aload_n (i := 0) (pc1 := 17) dX8_closing_16 rfl rfl rfl ?_
        refine g_get (pc1 := 20) dX8_closing_17 rfl flX8_47 rfl rfl ?_
        refine g_iload_n (i := 3) (pc1 := 21) dX8_closing_20 rfl rfl rfl ?_
        refine g_iconst (v := 1) (pc1 := 22) dX8_closing_21 rfl (by decide) ?_
        refine g_zastJ (pc1 := 23) dX8_closing_22 rfl rfl rfl (by omega) (by decide) (by decide) ?_
        refine g_aload_n (i := 0) (pc1 := 24) dX8_closing_23 rfl rfl rfl ?_
        refine g_iload_n (i := 3) (pc1 := 25) dX8_closing_24 rfl rfl rfl ?_
        refine g_iload_n (i := 2) (pc1 := 26) dX8_closing_25 rfl rfl rfl ?_
        refine aGo.eq (h' := rp x (nI n, nr, ot) (cf, upd sf v 1) F W L T V P) ?_ rfl rfl rfl
        refine g_V2 (M := mX8_isNearAll) (pc1 := 29) dX8_closing_26 rfl lkX8_100 tmX8_isNearAll rfl (r_isNearAll x n nr ot cf (upd sf v 1) F W L T V P hg hn (v := v) (by omega) (tcl n A col i).1) (Nat.le_of_ble_eq_true rfl) rfl (Nat.le_of_ble_eq_true rfl) (Nat.le_of_ble_eq_true rfl) ?_
        rintro _ _ ⟨rfl, rfl⟩
        refine g_if_eq (pc1 := 32) (tgt := 53) dX8_closing_29 rfl (by decide) (fun c1 => ?_) (fun c1 => ?_)
        · rw [bI_eq0] at c1
          have hno := nxt_out (i := i) hk c1
          refine nx i (fun j hj => ?_) hT ht
          rw [hO j hj]
          by_cases e : j = v
          · subst e; rw [hno] at hj; cases hj
          · simp [e]
        · rw [bI_ne0] at c1
          have hin := nxt_in (i := i) hk hO hv c1
          have hT' : cnt (tcl n A col (i + 1)).1 32 = i + 1 := by rw [clq_cnt hk hin, hT]
          have hle : cnt (tcl n A col (i + 1)).1 32 ≤ n := cnt_32 hn (fun w hw => clq_T _ w hw)
          rw [show n - i = (n - (i + 1)) + 1 by omega] at ht
          unfold tg at ht
          rw [hin] at ht
          simp only [] at ht
          refine g_iload_n (i := 2) (pc1 := 33) dX8_closing_32 rfl rfl rfl ?_
          refine g_iconst (v := 1) (pc1 := 34) dX8_closing_33 rfl (by decide) ?_
          refine g_iload_n (i := 3) (pc1 := 35) dX8_closing_34 rfl rfl rfl ?_
          refine g_ishl (pc1 := 36) dX8_closing_35 rfl ?_
          refine g_ior (pc1 := 37) dX8_closing_36 rfl ?_
          rw [bS_bit (j := v) (by omega), bS_or, show (fun j => (tcl n A col i).1 j || decide (j = v)) = (tcl n A col (i + 1)).1 by rw [tcl_succ hin]]
          refine g_istore_n (i := 2) (pc1 := 38) dX8_closing_37 rfl rfl (Nat.le_of_ble_eq_true rfl) ?_
          refine g_aload_n (i := 0) (pc1 := 39) dX8_closing_38 rfl rfl rfl ?_
          refine g_iload_n (i := 2) (pc1 := 40) dX8_closing_39 rfl rfl rfl ?_
          refine g_iload_n (i := 1) (pc1 := 41) dX8_closing_40 rfl rfl rfl ?_
          refine g_V2 (M := mX8_freeFor) (pc1 := 44) dX8_closing_41 rfl lkX8_103 tmX8_freeFor rfl (r_freeFor x n nr ot cf (upd sf v 1) F W L T V P hg hn hc h30 (tcl n A col (i + 1)).1 hk30) (Nat.le_of_ble_eq_true rfl) rfl (Nat.le_of_ble_eq_true rfl) (Nat.le_of_ble_eq_true rfl) ?_
          rintro _ _ ⟨rfl, rfl⟩
          refine g_iload_n (i := 2) (pc1 := 45) dX8_closing_44 rfl rfl rfl ?_
          refine g_S1 (M := mX8_size) (pc1 := 48) dX8_closing_45 rfl lkX8_106 tmX8_size (r_size (tcl n A col (i + 1)).1) (Nat.le_of_ble_eq_true rfl) rfl (Nat.le_of_ble_eq_true rfl) (Nat.le_of_ble_eq_true rfl) ?_
          rintro _ _ ⟨rfl, rfl⟩
          rw [hT']
          have hcl := cnt_le (frS n A col k (tcl n A col (i + 1)).1) 30
          show aGo _ 48 _ [.int (nI (i + 1)), .int (nI (cnt (frS n A col k (tcl n A col (i + 1)).1) 30))] _ _ _
          refine g_icmp_ge (pc1 := 51) (tgt := 53) dX8_closing_48 rfl (by decide) (fun c2 => ?_) (fun c2 => ?_)
          · have h5 : ¬ cnt (frS n A col k (tcl n A col (i + 1)).1) 30 < i + 1 := by
              have := (nI_leI (a := i + 1) (b := cnt (frS n A col k (tcl n A col (i + 1)).1) 30) (by omega) (by omega)).mp c2
              omega
            rw [if_neg h5] at ht
            refine nx (i + 1) (fun j hj => ?_) hT' ht
            rw [tcl_succ hin] at hj
            simp only [Bool.and_eq_true] at hj
            rw [hO j hj.1]
            by_cases e : j = v
            · subst e; rw [hk.2.2.1] at hj; cases hj.2
            · simp [e]
          · have h5 : cnt (frS n A col k (tcl n A col (i + 1)).1) 30 < i + 1 := by
              have : ¬ i + 1 ≤ cnt (frS n A col k (tcl n A col (i + 1)).1) 30 := fun q => c2 ((nI_leI (a := i + 1) (b := cnt (frS n A col k (tcl n A col (i + 1)).1) 30) (by omega) (by omega)).mpr q)
              omega
            rw [if_pos h5] at ht
            refine g_iload_n (i := 2) (pc1 := 52) dX8_closing_51 rfl rfl rfl ?_
            refine g_iret dX8_closing_52 rfl rfl (Nat.le_of_ble_eq_true rfl) (Nat.le_of_ble_eq_true rfl) ?_
            exact ⟨by rw [ht]; rfl, _, rfl⟩
  exact key _ (fun _ => false) (fil 30 0 sf) 0 hs0 (Nat.le_refl _) (fun _ _ => rfl) (cnt_zero fun _ _ => rfl) rfl
theorem brP_none (n : Nat) : brP n (fun _ => none) = fun i => decide (i < n) := by funext i; simp [brP]
set_option maxHeartbeats 1000000 in
theorem r_clique {A : Nat → Nat → Bool} (hg : rG (nI n, nr, ot) n A) (hk : Gok n A) : aRet 4 0 0 mX8_clique [.ref 24] (rp x (nI n, nr, ot) (cf, sf) F W L T V P) (fun w g => w = some (.int (bS (clqR A n))) ∧ ∃ cf' sf' : fI, g = rp x (nI n, nr, ot) (cf', sf') F W L T V P) := by
  have hn := hk.1
  have hR : clqR A n = (clq A (dg A n) n (brP n (fun _ => none)) n).1 := by unfold clqR; rw [brP_none]
  rw [hR]
  refine aRet.of (by decide) (Nat.le_of_ble_eq_true rfl) (a_ok2 rfl) ?_
  refine g_aload_n (i := 0) (pc1 := 1) dX8_clique_0 rfl rfl rfl ?_
  refine g_V0 (M := mX8_clearColours) (pc1 := 4) dX8_clique_1 rfl lkX8_109 tmX8_clearColours rfl (r_clearColours x cf sf F W L T V P (nI n, nr, ot)) (Nat.le_of_ble_eq_true rfl) rfl (Nat.le_of_ble_eq_true rfl) (Nat.le_of_ble_eq_true rfl) ?_
  rintro _ _ ⟨rfl, rfl⟩
  show aGo _ 4 _ [] _ _ _
  have hc : rK (fil 30 (-1) cf) (fun _ => none) := fun v hv => by simp [fil, hv, enO]
  have h30 : c30 (fun _ => none) := fun v c q => by cases q
  refine g_aload_n (i := 0) (pc1 := 5) dX8_clique_4 rfl rfl rfl ?_
  refine g_V0 (M := mX8_clearSeen) (pc1 := 8) dX8_clique_5 rfl lkX8_93 tmX8_clearSeen rfl (r_clearSeen x (fil 30 (-1) cf) sf F W L T V P (nI n, nr, ot)) (Nat.le_of_ble_eq_true rfl) rfl (Nat.le_of_ble_eq_true rfl) (Nat.le_of_ble_eq_true rfl) ?_
  rintro _ _ ⟨rfl, rfl⟩
  have hs0 : rS (fil 30 0 sf) (fun _ => false) := fun v hv => by simp [fil, hv, bI]
  show aGo _ 8 _ [] _ _ _
  refine g_iconst (v := 0) (pc1 := 9) dX8_clique_8 rfl (by decide) ?_
  refine g_istore_n (i := 1) (pc1 := 10) dX8_clique_9 rfl rfl (Nat.le_of_ble_eq_true rfl) ?_
  refine g_aload_n (i := 0) (pc1 := 11) dX8_clique_10 rfl rfl rfl ?_
  refine g_iconst (v := 0) (pc1 := 12) dX8_clique_11 rfl (by decide) ?_
  refine g_V1 (M := mX8_firstLeft) (pc1 := 15) dX8_clique_12 rfl lkX8_96 tmX8_firstLeft rfl (r_firstLeft x n nr ot (fil 30 (-1) cf) (fil 30 0 sf) F W L T V P hg hk hc h30 hs0 false) (Nat.le_of_ble_eq_true rfl) rfl (Nat.le_of_ble_eq_true rfl) (Nat.le_of_ble_eq_true rfl) ?_
  rintro _ _ ⟨rfl, rfl⟩
  refine g_istore_n (i := 2) (pc1 := 16) dX8_clique_15 rfl rfl (Nat.le_of_ble_eq_true rfl) ?_
  rw [bS_0]
  have key : ∀ (m : Nat) (sp : Nat → Bool) (sf : fI) (i : Nat), rS sf sp → cnt (fun j => !sp j && brP n (fun _ => none) j) n ≤ m → (∀ j, (clq A (dg A n) n (brP n (fun _ => none)) i).2 j = true → sp j = false) → cnt (clq A (dg A n) n (brP n (fun _ => none)) i).1 32 = i →
      aGo (4, 0, 0, mX8_clique, none, fun w g => w = some (.int (bS (clq A (dg A n) n (brP n (fun _ => none)) n).1)) ∧ ∃ cf' sf' : fI, g = rp x (nI n, nr, ot) (cf', sf') F W L T V P) 16 [.ref 24, .int (bS (clq A (dg A n) n (brP n (fun _ => none)) i).1), .int (enO (amx (fun v => !sp v && brP n (fun _ => none) v) (dg A n) n))] [] (rp x (nI n, nr, ot) (fil 30 (-1) cf, sf) F W L T V P) 0 0 := by
    intro m
    induction m with
    | zero =>
      intro sp sf i hs hm hO hT
      have hz : amx (fun v => !sp v && brP n (fun _ => none) v) (dg A n) n = none := amx_none.mpr fun j hj => by
        cases h : (!sp j && brP n (fun _ => none) j) with
        | false => rfl
        | true => have := cnt_pos (p := fun j => !sp j && brP n (fun _ => none) j) hj h; exact absurd this (Nat.not_lt.mpr hm)
      rw [hz]
      have hle : cnt (clq A (dg A n) n (brP n (fun _ => none)) i).1 32 ≤ n := cnt_32 hn (fun w hw => clq_T _ w hw)
      have hst := clq_stop (nxt_none (i := i) hO hz) (n - i)
      rw [show i + (n - i) = n by omega] at hst
      refine g_iload_n (i := 2) (pc1 := 17) dX8_clique_16 rfl rfl rfl ?_
      refine g_if_lt (pc1 := 20) (tgt := 55) dX8_clique_17 rfl (by decide) (fun _ => ?_) (fun hbr9 => absurd (by decide) hbr9)
      refine g_iload_n (i := 1) (pc1 := 56) dX8_clique_55 rfl rfl rfl ?_
      refine g_iret dX8_clique_56 rfl rfl (Nat.le_of_ble_eq_true rfl) (Nat.le_of_ble_eq_true rfl) ?_
      exact ⟨by rw [hst], _, _, rfl⟩
    | succ m ih =>
      intro sp sf i hs hm hO hT
      cases hv : amx (fun v => !sp v && brP n (fun _ => none) v) (dg A n) n with
      | none =>
        have hle : cnt (clq A (dg A n) n (brP n (fun _ => none)) i).1 32 ≤ n := cnt_32 hn (fun w hw => clq_T _ w hw)
        have hst := clq_stop (nxt_none (i := i) hO hv) (n - i)
        rw [show i + (n - i) = n by omega] at hst
        refine g_iload_n (i := 2) (pc1 := 17) dX8_clique_16 rfl rfl rfl ?_
        refine g_if_lt (pc1 := 20) (tgt := 55) dX8_clique_17 rfl (by decide) (fun _ => ?_) (fun hbr9 => absurd (by decide) hbr9)
        refine g_iload_n (i := 1) (pc1 := 56) dX8_clique_55 rfl rfl rfl ?_
        refine g_iret dX8_clique_56 rfl rfl (Nat.le_of_ble_eq_true rfl) (Nat.le_of_ble_eq_true rfl) ?_
        exact ⟨by rw [hst], _, _, rfl⟩
      | some v =>
        obtain ⟨g1, g2, -⟩ := amx_some hv
        have hs' := rS_ins hs v
        have hcn := cnt_rm (p := fun j => !sp j && brP n (fun _ => none) j) g2 g1
        have hm' : cnt (fun j => !(sp j || decide (j = v)) && brP n (fun _ => none) j) n ≤ m := by
          have e : cnt (fun j => !(sp j || decide (j = v)) && brP n (fun _ => none) j) n = cnt (fun j => (!sp j && brP n (fun _ => none) j) && !decide (j = v)) n := cnt_congr fun j _ => by
            cases sp j <;> cases brP n (fun _ => none) j <;> cases decide (j = v) <;> rfl
          omega
        have nx : ∀ (i' : Nat), (∀ j, (clq A (dg A n) n (brP n (fun _ => none)) i').2 j = true → (sp j || decide (j = v)) = false) → cnt (clq A (dg A n) n (brP n (fun _ => none)) i').1 32 = i' → aGo (4, 0, 0, mX8_clique, none, fun w g => w = some (.int (bS (clq A (dg A n) n (brP n (fun _ => none)) n).1)) ∧ ∃ cf' sf' : fI, g = rp x (nI n, nr, ot) (cf', sf') F W L T V P) 46 [.ref 24, .int (bS (clq A (dg A n) n (brP n (fun _ => none)) i').1), .int (nI v)] [] (rp x (nI n, nr, ot) (fil 30 (-1) cf, upd sf v 1) F W L T V P) 0 0 := by
          intro i' h1 h2
          refine g_aload_n (i := 0) (pc1 := 47) dX8_clique_46 rfl rfl rfl ?_
          refine g_iconst (v := 0) (pc1 := 48) dX8_clique_47 rfl (by decide) ?_
          refine g_V1 (M := mX8_firstLeft) (pc1 := 51) dX8_clique_48 rfl lkX8_96 tmX8_firstLeft rfl (r_firstLeft x n nr ot (fil 30 (-1) cf) (upd sf v 1) F W L T V P hg hk hc h30 hs' false) (Nat.le_of_ble_eq_true rfl) rfl (Nat.le_of_ble_eq_true rfl) (Nat.le_of_ble_eq_true rfl) ?_
          rintro _ _ ⟨rfl, rfl⟩
          refine g_istore_n (i := 2) (pc1 := 52) dX8_clique_51 rfl rfl (Nat.le_of_ble_eq_true rfl) ?_
          refine g_goto (tgt := 16) dX8_clique_52 (by decide) ?_
          exact aGo.eq (ih _ _ i' hs' hm' h1 h2) rfl rfl rfl
        refine g_iload_n (i := 2) (pc1 := 17) dX8_clique_16 rfl rfl rfl ?_
        refine g_if_lt (pc1 := 20) (tgt := 55) dX8_clique_17 rfl (by decide) (fun hbr9 => absurd hbr9 (nI_pos (by omega))) (fun _ => ?_)
        show aGo _ 20 [.ref 24, .int (bS (clq A (dg A n) n (brP n (fun _ => none)) i).1), .int (nI v)] _ _ _ _
        refine g_aload_n (i := 0) (pc1 := 21) dX8_clique_20 rfl rfl rfl ?_
        refine g_get (pc1 := 24) dX8_clique_21 rfl flX8_47 rfl rfl ?_
        refine g_iload_n (i := 2) (pc1 := 25) dX8_clique_24 rfl rfl rfl ?_
        refine g_iconst (v := 1) (pc1 := 26) dX8_clique_25 rfl (by decide) ?_
        refine g_zastJ (pc1 := 27) dX8_clique_26 rfl rfl rfl (by omega) (by decide) (by decide) ?_
        refine g_aload_n (i := 0) (pc1 := 28) dX8_clique_27 rfl rfl rfl ?_
        refine g_iload_n (i := 2) (pc1 := 29) dX8_clique_28 rfl rfl rfl ?_
        refine g_iload_n (i := 1) (pc1 := 30) dX8_clique_29 rfl rfl rfl ?_
        refine aGo.eq (h' := rp x (nI n, nr, ot) (fil 30 (-1) cf, upd sf v 1) F W L T V P) ?_ rfl rfl rfl
        refine g_V2 (M := mX8_isNearAll) (pc1 := 33) dX8_clique_30 rfl lkX8_100 tmX8_isNearAll rfl (r_isNearAll x n nr ot (fil 30 (-1) cf) (upd sf v 1) F W L T V P hg hn (v := v) (by omega) (clq A (dg A n) n (brP n (fun _ => none)) i).1) (Nat.le_of_ble_eq_true rfl) rfl (Nat.le_of_ble_eq_true rfl) (Nat.le_of_ble_eq_true rfl) ?_
        rintro _ _ ⟨rfl, rfl⟩
        refine g_if_eq (pc1 := 36) (tgt := 44) dX8_clique_33 rfl (by decide) (fun c1 => ?_) (fun c1 => ?_)
        · rw [bI_eq0] at c1
          have hno := nxt_out (i := i) hk c1
          refine g_iload_n (i := 1) (pc1 := 45) dX8_clique_44 rfl rfl rfl ?_
          refine g_istore_n (i := 1) (pc1 := 46) dX8_clique_45 rfl rfl (Nat.le_of_ble_eq_true rfl) ?_
          refine nx i (fun j hj => ?_) hT
          rw [hO j hj]
          by_cases e : j = v
          · subst e; rw [hno] at hj; cases hj
          · simp [e]
        · rw [bI_ne0] at c1
          have hin := nxt_in (i := i) hk hO hv c1
          have hT' : cnt (clq A (dg A n) n (brP n (fun _ => none)) (i + 1)).1 32 = i + 1 := by rw [clq_cnt hk hin, hT]
          refine g_iload_n (i := 1) (pc1 := 37) dX8_clique_36 rfl rfl rfl ?_
          refine g_iconst (v := 1) (pc1 := 38) dX8_clique_37 rfl (by decide) ?_
          refine g_iload_n (i := 2) (pc1 := 39) dX8_clique_38 rfl rfl rfl ?_
          refine g_ishl (pc1 := 40) dX8_clique_39 rfl ?_
          refine g_ior (pc1 := 41) dX8_clique_40 rfl ?_
          rw [bS_bit (j := v) (by omega), bS_or, show (fun j => (clq A (dg A n) n (brP n (fun _ => none)) i).1 j || decide (j = v)) = (clq A (dg A n) n (brP n (fun _ => none)) (i + 1)).1 by rw [clq_succ hin]]
          refine g_goto (tgt := 45) dX8_clique_41 (by decide) ?_
          refine g_istore_n (i := 1) (pc1 := 46) dX8_clique_45 rfl rfl (Nat.le_of_ble_eq_true rfl) ?_
          refine nx (i + 1) (fun j hj => ?_) hT'
          rw [clq_succ hin] at hj
          simp only [Bool.and_eq_true] at hj
          rw [hO j hj.1]
          by_cases e : j = v
          · subst e; rw [hk.2.2.1] at hj; cases hj.2
          · simp [e]
  exact key _ (fun _ => false) (fil 30 0 sf) 0 hs0 (Nat.le_refl _) (fun _ _ => rfl) (cnt_zero fun _ _ => rfl)
theorem fgS_stop {n : Nat} {A : Nat → Nat → Bool} {i : Nat} (h : chS n A (fgS n A i).1 = none) : ∀ k, fgS n A (i + k) = fgS n A i
  | 0 => rfl
  | k + 1 => by
    have ih := fgS_stop h k
    show (match chS n A (fgS n A (i + k)).1 with
      | none => fgS n A (i + k)
      | some v => _) = _
    rw [ih, h]
theorem fgS_succ {n : Nat} {A : Nat → Nat → Bool} {i v : Nat} (h : chS n A (fgS n A i).1 = some v) : fgS n A (i + 1) = (cset (fgS n A i).1 v (lu n A (fgS n A i).1 v), up1 (fgS n A i).2 (lu n A (fgS n A i).1 v)) := by
  show (match chS n A (fgS n A i).1 with
    | none => fgS n A i
    | some v => _) = _
  rw [h]
theorem rK_set {cf : fI} {col : tCol} (h : rK cf col) (v c : Nat) : rK (upd cf v (nI c)) (cset col v c) := by
  intro w hw
  by_cases e : w = v
  · subst e; rw [pk_us]; simp [cset, enO]
  · rw [pk_un e, h w hw]; simp [cset, e]
theorem Cok.c30 {n u : Nat} {col : tCol} (h : Cok n col u) : c30 col := fun v c q => (h.1 v c q).2
set_option maxHeartbeats 1000000 in
theorem r_first {A : Nat → Nat → Bool} (hg : rG (nI n, nr, ot) n A) (hk : Gok n A) : aRet 4 0 0 mX8_first [.ref 24] (rp x (nI n, nr, ot) (cf, sf) F W L T V P) (fun w g => w = some (.int (nI (fgS n A n).2)) ∧ ∃ cf' : fI, rK cf' (fgS n A n).1 ∧ g = rp x (nI n, nr, ot) (cf', sf) F W L T V P) := by
  have hn := hk.1
  refine aRet.of (by decide) (Nat.le_of_ble_eq_true rfl) (a_ok2 rfl) ?_
  refine g_aload_n (i := 0) (pc1 := 1) dX8_first_0 rfl rfl rfl ?_
  refine g_V0 (M := mX8_clearColours) (pc1 := 4) dX8_first_1 rfl lkX8_109 tmX8_clearColours rfl (r_clearColours x cf sf F W L T V P (nI n, nr, ot)) (Nat.le_of_ble_eq_true rfl) rfl (Nat.le_of_ble_eq_true rfl) (Nat.le_of_ble_eq_true rfl) ?_
  rintro _ _ ⟨rfl, rfl⟩
  show aGo _ 4 _ [] _ _ _
  have hc0 : rK (fil 30 (-1) cf) (fgS n A 0).1 := fun v hv => by simp [fil, hv, fgS, enO]
  refine g_aload_n (i := 0) (pc1 := 5) dX8_first_4 rfl rfl rfl ?_
  refine g_V0 (M := mX8_choice) (pc1 := 8) dX8_first_5 rfl lkX8_112 tmX8_choice rfl (r_choice x n nr ot (fil 30 (-1) cf) sf F W L T V P hg hk hc0 (fgS_ok n A 0).c30) (Nat.le_of_ble_eq_true rfl) rfl (Nat.le_of_ble_eq_true rfl) (Nat.le_of_ble_eq_true rfl) ?_
  rintro _ _ ⟨rfl, rfl⟩
  refine g_istore_n (i := 1) (pc1 := 9) dX8_first_8 rfl rfl (Nat.le_of_ble_eq_true rfl) ?_
  have fin : ∀ (cf : fI) (i : Nat), i ≤ n → rK cf (fgS n A i).1 → chS n A (fgS n A i).1 = none → aGo (4, 0, 0, mX8_first, none, fun w g => w = some (.int (nI (fgS n A n).2)) ∧ ∃ cf' : fI, rK cf' (fgS n A n).1 ∧ g = rp x (nI n, nr, ot) (cf', sf) F W L T V P) 9 [.ref 24, .int (enO (chS n A (fgS n A i).1)), .null] [] (rp x (nI n, nr, ot) (cf, sf) F W L T V P) 0 0 := by
    intro cf i hi hc hch
    have hst := fgS_stop hch (n - i)
    rw [show i + (n - i) = n by omega] at hst
    rw [hch]
    refine g_iload_n (i := 1) (pc1 := 10) dX8_first_9 rfl rfl rfl ?_
    refine g_if_lt (pc1 := 13) (tgt := 45) dX8_first_10 rfl (by decide) (fun _ => ?_) (fun hbr9 => absurd (by decide) hbr9)
    refine g_aload_n (i := 0) (pc1 := 46) dX8_first_45 rfl rfl rfl ?_
    refine g_V0 (M := mX8_standing) (pc1 := 49) dX8_first_46 rfl lkX8_115 tmX8_standing rfl (r_standing x n cf sf F W L T V P (nI n, nr, ot) rfl hn hc (fgS_ok n A i).c30) (Nat.le_of_ble_eq_true rfl) rfl (Nat.le_of_ble_eq_true rfl) (Nat.le_of_ble_eq_true rfl) ?_
    rintro _ _ ⟨rfl, rfl⟩
    refine g_iret dX8_first_49 rfl rfl (Nat.le_of_ble_eq_true rfl) (Nat.le_of_ble_eq_true rfl) ?_
    exact ⟨by rw [stN_u (fgS_ok n A i), hst], cf, by rw [hst]; exact hc, rfl⟩
  have key : ∀ (m : Nat) (cf : fI) (i : Nat), i + m = n → rK cf (fgS n A i).1 → cnt (brP n (fgS n A i).1) n = m → aGo (4, 0, 0, mX8_first, none, fun w g => w = some (.int (nI (fgS n A n).2)) ∧ ∃ cf' : fI, rK cf' (fgS n A n).1 ∧ g = rp x (nI n, nr, ot) (cf', sf) F W L T V P) 9 [.ref 24, .int (enO (chS n A (fgS n A i).1)), .null] [] (rp x (nI n, nr, ot) (cf, sf) F W L T V P) 0 0 := by
    intro m
    induction m with
    | zero =>
      intro cf i him hc hcn
      refine fin cf i (by omega) hc (amx_none.mpr fun j hj => ?_)
      cases h : brP n (fgS n A i).1 j with
      | false => rfl
      | true => have := cnt_pos (p := brP n (fgS n A i).1) hj h; omega
    | succ m ih =>
      intro cf i him hc hcn
      cases hch : chS n A (fgS n A i).1 with
      | none => have := fin cf i (by omega) hc hch; rw [hch] at this; exact this
      | some v =>
        obtain ⟨hv, hv0⟩ := chS_some hch
        have hok := fgS_ok n A i
        have hun := hok.lt hv hv0
        have hlu := lu_le (A := A) hok v
        have hfs := fgS_succ hch
        refine g_iload_n (i := 1) (pc1 := 10) dX8_first_9 rfl rfl rfl ?_
        refine g_if_lt (pc1 := 13) (tgt := 45) dX8_first_10 rfl (by decide) (fun hbr9 => absurd hbr9 (nI_pos (by omega))) (fun _ => ?_)
        show aGo _ 13 [.ref 24, .int (nI v), .null] _ _ _ _
        refine g_iconst (v := 0) (pc1 := 14) dX8_first_13 rfl (by decide) ?_
        refine g_istore_n (i := 2) (pc1 := 15) dX8_first_14 rfl rfl (Nat.le_of_ble_eq_true rfl) ?_
        have hnolu : hC n A (fgS n A i).1 v (lu n A (fgS n A i).1 v) = false := by
          rcases Nat.lt_or_ge (lu n A (fgS n A i).1 v) 29 with q | q
          · have := (lst_spec (fun c => !hC n A (fgS n A i).1 v c) 29).2 q
            unfold lu
            simpa using this
          · exact hC_big hok (by omega)
        have inner : ∀ c, c ≤ lu n A (fgS n A i).1 v → aGo (4, 0, 0, mX8_first, none, fun w g => w = some (.int (nI (fgS n A n).2)) ∧ ∃ cf' : fI, rK cf' (fgS n A n).1 ∧ g = rp x (nI n, nr, ot) (cf', sf) F W L T V P) 15 [.ref 24, .int (nI v), .int (nI c)] [] (rp x (nI n, nr, ot) (cf, sf) F W L T V P) 0 0 := by
          refine down ?_ ?_
          · have hnb : ¬ nbW n A (fgS n A i).1 v (lu n A (fgS n A i).1 v) < n := fun q => by rw [nbW_hC.mp q] at hnolu; cases hnolu
            refine g_aload_n (i := 0) (pc1 := 16) dX8_first_15 rfl rfl rfl ?_
            refine g_iload_n (i := 1) (pc1 := 17) dX8_first_16 rfl rfl rfl ?_
            refine g_iload_n (i := 2) (pc1 := 18) dX8_first_17 rfl rfl rfl ?_
            refine g_V2 (M := mX8_neighbourWith) (pc1 := 21) dX8_first_18 rfl lkX8_84 tmX8_neighbourWith rfl (r_neighbourWith x n nr ot cf sf F W L T V P hg hn hc hok.c30 (v := v) (c := lu n A (fgS n A i).1 v) (by omega) (by omega)) (Nat.le_of_ble_eq_true rfl) rfl (Nat.le_of_ble_eq_true rfl) (Nat.le_of_ble_eq_true rfl) ?_
            rintro _ _ ⟨rfl, rfl⟩
            refine g_if_lt (pc1 := 24) (tgt := 30) dX8_first_21 rfl (by decide) (fun _ => ?_) (fun hbr9 => absurd ((enL_neg hn (nbW_le _ _ _ _ _)).mpr hnb) hbr9)
            refine g_aload_n (i := 0) (pc1 := 31) dX8_first_30 rfl rfl rfl ?_
            refine g_get (pc1 := 34) dX8_first_31 rfl flX8_16 rfl rfl ?_
            refine g_iload_n (i := 1) (pc1 := 35) dX8_first_34 rfl rfl rfl ?_
            refine g_iload_n (i := 2) (pc1 := 36) dX8_first_35 rfl rfl rfl ?_
            refine g_iastJ (pc1 := 37) dX8_first_36 rfl rfl rfl (by omega) (by decide) ?_
            refine g_aload_n (i := 0) (pc1 := 38) dX8_first_37 rfl rfl rfl ?_
            refine aGo.eq (h' := rp x (nI n, nr, ot) (upd cf v (nI (lu n A (fgS n A i).1 v)), sf) F W L T V P) ?_ rfl rfl rfl
            have hc' : rK (upd cf v (nI (lu n A (fgS n A i).1 v))) (fgS n A (i + 1)).1 := by rw [hfs]; exact rK_set hc v _
            refine g_V0 (M := mX8_choice) (pc1 := 41) dX8_first_38 rfl lkX8_112 tmX8_choice rfl (r_choice x n nr ot (upd cf v (nI (lu n A (fgS n A i).1 v))) sf F W L T V P hg hk hc' (fgS_ok n A (i + 1)).c30) (Nat.le_of_ble_eq_true rfl) rfl (Nat.le_of_ble_eq_true rfl) (Nat.le_of_ble_eq_true rfl) ?_
            rintro _ _ ⟨rfl, rfl⟩
            refine g_istore_n (i := 1) (pc1 := 42) dX8_first_41 rfl rfl (Nat.le_of_ble_eq_true rfl) ?_
            refine g_goto (tgt := 9) dX8_first_42 (by decide) ?_
            refine aGo.forget 2 ?_
            refine aGo.eq (ih _ (i + 1) (by omega) hc' ?_) rfl rfl rfl
            have hb := cnt_brP_set (c := lu n A (fgS n A i).1 v) hv hv0
            rw [hfs]
            show cnt (brP n (cset (fgS n A i).1 v (lu n A (fgS n A i).1 v))) n = m
            omega
          · intro c hcl ih2
            have hb := (lst_spec (fun c => !hC n A (fgS n A i).1 v c) 29).1 c hcl
            have hh : hC n A (fgS n A i).1 v c = true := by simpa using hb
            have hnb := nbW_hC.mpr hh
            refine g_aload_n (i := 0) (pc1 := 16) dX8_first_15 rfl rfl rfl ?_
            refine g_iload_n (i := 1) (pc1 := 17) dX8_first_16 rfl rfl rfl ?_
            refine g_iload_n (i := 2) (pc1 := 18) dX8_first_17 rfl rfl rfl ?_
            refine g_V2 (M := mX8_neighbourWith) (pc1 := 21) dX8_first_18 rfl lkX8_84 tmX8_neighbourWith rfl (r_neighbourWith x n nr ot cf sf F W L T V P hg hn hc hok.c30 (v := v) (c := c) (by omega) (by omega)) (Nat.le_of_ble_eq_true rfl) rfl (Nat.le_of_ble_eq_true rfl) (Nat.le_of_ble_eq_true rfl) ?_
            rintro _ _ ⟨rfl, rfl⟩
            refine g_if_lt (pc1 := 24) (tgt := 30) dX8_first_21 rfl (by decide) (fun hbr9 => absurd hbr9 (fun q => absurd hnb ((enL_neg hn (nbW_le _ _ _ _ _)).mp q))) (fun _ => ?_)
            refine g_iinc (pc1 := 27) dX8_first_24 rfl rfl rfl ?_
            refine g_goto (tgt := 15) dX8_first_27 (by decide) ?_
            refine aGo.eq ih2 ?_ rfl rfl
            show [Value.ref 24, .int (nI v), .int (nI c + Int32.ofInt 1)] = _
            rw [show nI c + Int32.ofInt 1 = nI (c + 1) from nI_1 c]
        exact inner 0 (Nat.zero_le _)
  refine key n (fil 30 (-1) cf) 0 (Nat.zero_add n) hc0 ?_
  show cnt (brP n (fun _ => none)) n = n
  rw [brP_none]
  have : ∀ m, m ≤ n → cnt (fun i => decide (i < n)) m = m := by
    intro m
    induction m with
    | zero => intro _; rfl
    | succ m ih =>
      intro hm
      show cnt _ m + (if decide (m < n) then 1 else 0) = m + 1
      rw [ih (by omega), decide_eq_true (by omega)]; rfl
  exact this n (Nat.le_refl _)
end
