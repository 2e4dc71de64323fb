/-! ===== the reference: check ===== -/
section
variable (x : Nat → aC) (n : Nat) (nr ot : fI) (W L T : tW) (V : tM) (P : fI)
abbrev ckE (R0 : Bool × Nat) (len : Nat) : aE := (5, 0, 0, mX8_check, none, fun w g => w = some (.int (if R0.1 = true ∧ R0.2 = len then -1 else nI R0.2)) ∧ ∃ (Q' : tQ) (F' : tF), g = rp x (nI n, nr, ot) Q' F' W L T V P)
/-- behind leave(), no proof wanted -/
def at26 (R0 : Bool × Nat) (lg : tLog) (k t : Nat) (S : tSk × tCol) : Prop := ∀ (cf sf : fI) (F : tF), rK cf S.2 → fC F S.1.reverse → aGo (ckE x n nr ot W L T V P R0 lg.length) 26 [.ref 24, .int (nI k), .int (nI t), .int 0, .null] [] (rp x (nI n, nr, ot) (cf, sf) F W L T V P) 0 0
def ckC (R0 : Bool × Nat) (lg : tLog) (k : Nat) (R : Bool × Nat) (st : tSk) (col : tCol) : Prop := (R.1 = true → R.2 ≤ lg.length → at26 x n nr ot W L T V P R0 lg k R.2 (lvR k st col)) ∧ (R.1 = false → R = R0)
def PfP (A : Nat → Nat → Bool) (R0 : Bool × Nat) (lg : tLog) (k d : Nat) : Prop := ∀ (col : tCol) (u t : Nat) (st : tSk), Cok n col u → cnt (brP n col) n < d → st.length + cnt (brP n col) n ≤ n → t ≤ lg.length → stO n st → ckC x n nr ot W L T V P R0 lg k (pf n A k lg d col u t) st col →
  ∀ (cf sf : fI) (F : tF), rK cf col → fC F st.reverse → aGo (ckE x n nr ot W L T V P R0 lg.length) 26 [.ref 24, .int (nI k), .int (nI t), .int 1, .null] [] (rp x (nI n, nr, ot) (cf, sf) F W L T V P) 0 0
theorem ck_bad {R0 : Bool × Nat} {lg : tLog} {k t : Nat} {Q : tQ} {F : tF} (h : (false, t) = R0) (pc : Nat) (hpc : pc = 45 ∨ pc = 60 ∨ pc = 79) (a b : Value) : aGo (ckE x n nr ot W L T V P R0 lg.length) pc [.ref 24, .int (nI k), .int (nI t), a, b] [] (rp x (nI n, nr, ot) Q F W L T V P) 0 0 := by
  have hq : (if R0.1 = true ∧ R0.2 = lg.length then (-1 : Int32) else nI R0.2) = nI t := by
    rw [← h, if_neg (fun q => by cases q.1)]
  rcases hpc with rfl | rfl | rfl
  · refine g_iload_n (i := 2) (pc1 := 46) dX8_check_45 rfl rfl rfl ?_
    refine g_iret dX8_check_46 rfl rfl (Nat.le_of_ble_eq_true rfl) (Nat.le_of_ble_eq_true rfl) ?_
    exact ⟨by rw [hq], Q, F, rfl⟩
  · refine g_iload_n (i := 2) (pc1 := 61) dX8_check_60 rfl rfl rfl ?_
    refine g_iret dX8_check_61 rfl rfl (Nat.le_of_ble_eq_true rfl) (Nat.le_of_ble_eq_true rfl) ?_
    exact ⟨by rw [hq], Q, F, rfl⟩
  · refine g_iload_n (i := 2) (pc1 := 80) dX8_check_79 rfl rfl rfl ?_
    refine g_iret dX8_check_80 rfl rfl (Nat.le_of_ble_eq_true rfl) (Nat.le_of_ble_eq_true rfl) ?_
    exact ⟨by rw [hq], Q, F, rfl⟩
theorem ck_leave {R0 : Bool × Nat} {lg : tLog} {k t : Nat} (hn : n ≤ 30) (hk30 : k ≤ 30) {st : tSk} {a : tCol} {cf sf : fI} {F : tF} (hc : rK cf a) (hF : fC F st.reverse) (hst : stO n st) (h : at26 x n nr ot W L T V P R0 lg k t (lvR k st a)) (e : Value) : aGo (ckE x n nr ot W L T V P R0 lg.length) 100 [.ref 24, .int (nI k), .int (nI t), .int 0, e] [] (rp x (nI n, nr, ot) (cf, sf) F W L T V P) 0 0 := by
  refine aGo.forget 4 ?_
  show aGo _ 100 [.ref 24, .int (nI k), .int (nI t), .int 0, .null] _ _ _ _
  refine g_aload_n (i := 0) (pc1 := 101) dX8_check_100 rfl rfl rfl ?_
  refine g_iload_n (i := 1) (pc1 := 102) dX8_check_101 rfl rfl rfl ?_
  refine g_V1 (M := mX8_leave) (pc1 := 105) dX8_check_102 rfl lkX8_173 tmX8_leave rfl (r_leave x n nr ot W L T V P hn sf hk30 st cf F a hc hF hst) (Nat.le_of_ble_eq_true rfl) rfl (Nat.le_of_ble_eq_true rfl) (Nat.le_of_ble_eq_true rfl) ?_
  rintro _ _ ⟨rfl, cf', F', h1, h2, rfl⟩
  show aGo _ 105 _ [] _ _ _
  refine g_goto (tgt := 26) dX8_check_105 (by decide) ?_
  exact h cf' sf F' h1 h2
set_option maxHeartbeats 1000000 in
theorem ck_branch {A : Nat → Nat → Bool} (hg : rG (nI n, nr, ot) n A) (hk : Gok n A) {k : Nat} (hk30 : k ≤ 30) {R0 : Bool × Nat} {lg : tLog} (hT : rL T lg) {d : Nat} (hV : PfP x n nr ot W L T V P A R0 lg k d) (col : tCol) (u v : Nat) (st : tSk) (hok : Cok n col u) (hd : cnt (brP n col) n < d + 1) (hst : st.length + cnt (brP n col) n ≤ n) (hso : stO n st) (hv : v < n) (hv0 : col v = none) :
    ∀ (m c t : Nat) (a : tCol), c + m = 31 → t ≤ lg.length → clr a v = col → ckC x n nr ot W L T V P R0 lg k (pfl (pf n A k lg d) n A k lg col u v m c t) st col → at26 x n nr ot W L T V P R0 lg k t (lvR k ((v, c, u) :: st) a) := by
  have hn := hk.1
  have hl := hT.2.1
  have hun := hok.lt hv hv0
  have hbr : ∀ c, cnt (brP n (cset col v c)) n + 1 = cnt (brP n col) n := fun c => cnt_brP_set hv hv0
  have hso' : ∀ c, c ≤ 31 → stO n ((v, c, u) :: st) := by
    intro c hc e he
    rcases List.mem_cons.mp he with rfl | he
    · exact ⟨hv, hc, by show u ≤ 30; omega⟩
    · exact hso e he
  intro m
  induction m with
  | zero =>
    intro c t a hcm ht ha hC0
    unfold lvR
    rw [if_pos (Or.inl (by omega)), ha]
    exact hC0.1 rfl ht
  | succ m ih =>
    intro c t a hcm ht ha hC0
    unfold pfl at hC0
    unfold lvR
    by_cases hgo : c < k ∧ c ≤ u
    · rw [if_neg (by omega), ha]
      rw [if_pos hgo] at hC0
      intro cf sf F hc hF
      dsimp only at hc hF
      rw [List.reverse_cons] at hF
      have hdep : F.2.2.2 = nI (st.length + 1) := by have := hF.1; rw [List.length_append, List.length_reverse] at this; exact this
      refine g_iload_n (i := 3) (pc1 := 27) dX8_check_26 rfl rfl rfl ?_
      refine g_if_ne (pc1 := 30) (tgt := 37) dX8_check_27 rfl (by decide) (fun hbr9 => absurd hbr9 (fun q => q rfl)) (fun _ => ?_)
      refine g_aload_n (i := 0) (pc1 := 31) dX8_check_30 rfl rfl rfl ?_
      refine g_get (pc1 := 34) dX8_check_31 rfl flX8_121 rfl rfl ?_
      rw [hdep]
      refine g_if_le (pc1 := 37) (tgt := 108) dX8_check_34 rfl (by decide) (fun hbr9 => absurd hbr9 (nI_nle (by omega) (by omega))) (fun _ => ?_)
      refine g_iload_n (i := 2) (pc1 := 38) dX8_check_37 rfl rfl rfl ?_
      refine g_aload_n (i := 0) (pc1 := 39) dX8_check_38 rfl rfl rfl ?_
      refine g_get (pc1 := 42) dX8_check_39 rfl flX8_158 rfl rfl ?_
      rw [hT.1]
      by_cases htl : t = lg.length
      · have hno : ∀ q, bst lg t q = false := by
          intro q
          unfold bst
          rw [List.getElem?_eq_none (by omega)]
        rw [hno, hno] at hC0
        have hR : (false, t) = R0 := by
          have : ∀ b : Bool, (if b = true then (if false = true then pfl (pf n A k lg d) n A k lg col u v m (c + 1) (t + 1) else (false, t)) else if false = true then (if (pf n A k lg d (cset col v c) (up1 u c) (t + 1)).1 = true then pfl (pf n A k lg d) n A k lg col u v m (c + 1) (pf n A k lg d (cset col v c) (up1 u c) (t + 1)).2 else pf n A k lg d (cset col v c) (up1 u c) (t + 1)) else (false, t)) = (false, t) := by
            intro b; cases b <;> rfl
          rw [this] at hC0
          exact hC0.2 rfl
        refine g_icmp_ne (pc1 := 45) (tgt := 47) dX8_check_42 rfl (by decide) (fun hbr9 => absurd hbr9 (fun q => q (by rw [htl]))) (fun _ => ?_)
        exact ck_bad x n nr ot W L T V P hR 45 (Or.inl rfl) _ _
      · obtain ⟨⟨o, y⟩, hoy⟩ : ∃ e, lg[t]? = some e := ⟨lg[t]'(by omega), List.getElem?_eq_getElem (by omega)⟩
        have hbs : ∀ q, bst lg t q = q o y := by intro q; unfold bst; rw [hoy]
        rw [hbs, hbs] at hC0
        refine g_icmp_ne (pc1 := 45) (tgt := 47) dX8_check_42 rfl (by decide) (fun _ => ?_) (fun hbr9 => absurd hbr9 (fun q => htl ((nI_eq (a := t) (b := lg.length) (by omega) (by omega)).mp q)))
        refine g_iload_n (i := 3) (pc1 := 48) dX8_check_47 rfl rfl rfl ?_
        refine g_if_eq (pc1 := 51) (tgt := 67) dX8_check_48 rfl (by decide) (fun _ => ?_) (fun hbr9 => absurd rfl hbr9)
        refine g_aload_n (i := 0) (pc1 := 68) dX8_check_67 rfl rfl rfl ?_
        refine g_iload_n (i := 2) (pc1 := 69) dX8_check_68 rfl rfl rfl ?_
        refine g_V1 (M := mX8_stands) (pc1 := 72) dX8_check_69 rfl lkX8_170 tmX8_stands rfl (r_stands x n nr ot W L T V P hg hk cf sf F hc hok hT hoy hv (c := c) (by omega) hF) (Nat.le_of_ble_eq_true rfl) rfl (Nat.le_of_ble_eq_true rfl) (Nat.le_of_ble_eq_true rfl) ?_
        rintro _ _ ⟨F', hF', h⟩
        have hF2 : fC F' ((v, c + 1, u) :: st).reverse := by rw [List.reverse_cons]; exact hF'
        rcases h with ⟨h0, h1, rfl, rfl⟩ | ⟨h0, h1, rfl, rfl⟩ | ⟨h0, h1, rfl, rfl⟩ | ⟨h0, h1, rfl, rfl⟩
        · rw [if_pos h0, if_pos h1] at hC0
          refine g_istore (pc1 := 74) dX8_check_72 rfl (Nat.le_of_ble_eq_true rfl) ?_
          refine g_iload (pc1 := 76) dX8_check_74 rfl rfl ?_
          refine g_if_ge (pc1 := 79) (tgt := 81) dX8_check_76 rfl (by decide) (fun _ => ?_) (fun hbr9 => absurd (by decide) hbr9)
          refine g_iload (pc1 := 83) dX8_check_81 rfl rfl ?_
          refine g_iconst (v := 1) (pc1 := 84) dX8_check_83 rfl (by decide) ?_
          refine g_icmp_ne (pc1 := 87) (tgt := 91) dX8_check_84 rfl (by decide) (fun _ => ?_) (fun hbr9 => absurd hbr9 (by decide))
          refine g_iconst (v := 0) (pc1 := 92) dX8_check_91 rfl (by decide) ?_
          refine g_istore_n (i := 3) (pc1 := 93) dX8_check_92 rfl rfl (Nat.le_of_ble_eq_true rfl) ?_
          refine g_iinc (pc1 := 96) dX8_check_93 rfl rfl rfl ?_
          refine g_iload_n (i := 3) (pc1 := 97) dX8_check_96 rfl rfl rfl ?_
          refine g_if_ne (pc1 := 100) (tgt := 26) dX8_check_97 rfl (by decide) (fun hbr9 => absurd hbr9 (fun q => q rfl)) (fun _ => ?_)
          refine aGo.eq (ck_leave x n nr ot W L T V P hn hk30 (t := t + 1) (st := (v, c + 1, u) :: st) (a := col) hc hF2 (hso' _ (by omega)) (ih (c + 1) (t + 1) col (by omega) (by omega) (clr_id hv0) hC0) (.int 0)) ?_ rfl rfl
          show [Value.ref 24, .int (nI k), .int (nI t + Int32.ofInt 1), .int 0, .int 0] = _
          rw [show nI t + Int32.ofInt 1 = nI (t + 1) from nI_1 t]
        · rw [if_pos h0, if_neg (by rw [h1]; decide)] at hC0
          refine g_istore (pc1 := 74) dX8_check_72 rfl (Nat.le_of_ble_eq_true rfl) ?_
          refine g_iload (pc1 := 76) dX8_check_74 rfl rfl ?_
          refine g_if_ge (pc1 := 79) (tgt := 81) dX8_check_76 rfl (by decide) (fun hbr9 => absurd hbr9 (by decide)) (fun _ => ?_)
          exact ck_bad x n nr ot W L T V P (hC0.2 rfl) 79 (Or.inr (Or.inr rfl)) _ _
        · rw [if_neg (by rw [h0]; decide), if_pos h1] at hC0
          have hok' := hok.set hv hv0 hgo.2 (show c < 30 by omega)
          have hb := hbr c
          refine g_istore (pc1 := 74) dX8_check_72 rfl (Nat.le_of_ble_eq_true rfl) ?_
          refine g_iload (pc1 := 76) dX8_check_74 rfl rfl ?_
          refine g_if_ge (pc1 := 79) (tgt := 81) dX8_check_76 rfl (by decide) (fun _ => ?_) (fun hbr9 => absurd (by decide) hbr9)
          refine g_iload (pc1 := 83) dX8_check_81 rfl rfl ?_
          refine g_iconst (v := 1) (pc1 := 84) dX8_check_83 rfl (by decide) ?_
          refine g_icmp_ne (pc1 := 87) (tgt := 91) dX8_check_84 rfl (by decide) (fun hbr9 => absurd hbr9 (fun q => q rfl)) (fun _ => ?_)
          refine g_iconst (v := 1) (pc1 := 88) dX8_check_87 rfl (by decide) ?_
          refine g_goto (tgt := 92) dX8_check_88 (by decide) ?_
          refine g_istore_n (i := 3) (pc1 := 93) dX8_check_92 rfl rfl (Nat.le_of_ble_eq_true rfl) ?_
          refine g_iinc (pc1 := 96) dX8_check_93 rfl rfl rfl ?_
          refine g_iload_n (i := 3) (pc1 := 97) dX8_check_96 rfl rfl rfl ?_
          refine g_if_ne (pc1 := 100) (tgt := 26) dX8_check_97 rfl (by decide) (fun _ => ?_) (fun hbr9 => absurd hbr9 (by decide))
          refine aGo.forget 4 ?_
          refine aGo.eq (hV (cset col v c) (up1 u c) (t + 1) ((v, c + 1, u) :: st) hok' (by omega) (by simp only [List.length_cons]; omega) (by omega) (hso' _ (by omega)) ⟨fun hz hz2 => ?_, fun hz => ?_⟩ (upd cf v (nI c)) sf F' (rK_set hc v c) hF2) ?_ rfl rfl
          · rw [if_pos hz] at hC0
            exact ih (c + 1) _ _ (by omega) hz2 (clr_set hv0 c) hC0
          · rw [if_neg (by rw [hz]; decide)] at hC0
            exact hC0.2 hz
          · show [Value.ref 24, .int (nI k), .int (nI t + Int32.ofInt 1), .int 1, .null] = _
            rw [show nI t + Int32.ofInt 1 = nI (t + 1) from nI_1 t]
        · rw [if_neg (by rw [h0]; decide), if_neg (by rw [h1]; decide)] at hC0
          refine g_istore (pc1 := 74) dX8_check_72 rfl (Nat.le_of_ble_eq_true rfl) ?_
          refine g_iload (pc1 := 76) dX8_check_74 rfl rfl ?_
          refine g_if_ge (pc1 := 79) (tgt := 81) dX8_check_76 rfl (by decide) (fun hbr9 => absurd hbr9 (by decide)) (fun _ => ?_)
          exact ck_bad x n nr ot W L T V P (hC0.2 rfl) 79 (Or.inr (Or.inr rfl)) _ _
    · rw [if_pos (by omega), ha]
      rw [if_neg hgo] at hC0
      exact hC0.1 rfl ht
set_option maxHeartbeats 1000000 in
theorem ck_pf {A : Nat → Nat → Bool} (hg : rG (nI n, nr, ot) n A) (hk : Gok n A) {k : Nat} (hk30 : k ≤ 30) {R0 : Bool × Nat} {lg : tLog} (hT : rL T lg) : ∀ d, PfP x n nr ot W L T V P A R0 lg k d := by
  have hn := hk.1
  have hl := hT.2.1
  intro d
  induction d with
  | zero => intro col u t st _ h; exact absurd h (Nat.not_lt_zero _)
  | succ d hV =>
    intro col u t st hok hd hst ht hso hC0 cf sf F hc hF
    unfold pf at hC0
    refine g_iload_n (i := 3) (pc1 := 27) dX8_check_26 rfl rfl rfl ?_
    refine g_if_ne (pc1 := 30) (tgt := 37) dX8_check_27 rfl (by decide) (fun _ => ?_) (fun hbr9 => absurd hbr9 (by decide))
    refine g_iload_n (i := 2) (pc1 := 38) dX8_check_37 rfl rfl rfl ?_
    refine g_aload_n (i := 0) (pc1 := 39) dX8_check_38 rfl rfl rfl ?_
    refine g_get (pc1 := 42) dX8_check_39 rfl flX8_158 rfl rfl ?_
    rw [hT.1]
    by_cases htl : t = lg.length
    · rw [List.getElem?_eq_none (show lg.length ≤ t by omega)] at hC0
      refine g_icmp_ne (pc1 := 45) (tgt := 47) dX8_check_42 rfl (by decide) (fun hbr9 => absurd hbr9 (fun q => q (by rw [htl]))) (fun _ => ?_)
      exact ck_bad x n nr ot W L T V P (hC0.2 rfl) 45 (Or.inl rfl) _ _
    · obtain ⟨⟨o, y⟩, hoy⟩ : ∃ e, lg[t]? = some e := ⟨lg[t]'(by omega), List.getElem?_eq_getElem (by omega)⟩
      rw [hoy] at hC0
      simp only [] at hC0
      refine g_icmp_ne (pc1 := 45) (tgt := 47) dX8_check_42 rfl (by decide) (fun _ => ?_) (fun hbr9 => absurd hbr9 (fun q => htl ((nI_eq (a := t) (b := lg.length) (by omega) (by omega)).mp q)))
      refine g_iload_n (i := 3) (pc1 := 48) dX8_check_47 rfl rfl rfl ?_
      refine g_if_eq (pc1 := 51) (tgt := 67) dX8_check_48 rfl (by decide) (fun hbr9 => absurd hbr9 (by decide)) (fun _ => ?_)
      refine g_aload_n (i := 0) (pc1 := 52) dX8_check_51 rfl rfl rfl ?_
      refine g_iload_n (i := 2) (pc1 := 53) dX8_check_52 rfl rfl rfl ?_
      refine g_iload_n (i := 1) (pc1 := 54) dX8_check_53 rfl rfl rfl ?_
      refine g_V2 (M := mX8_begins) (pc1 := 57) dX8_check_54 rfl lkX8_167 tmX8_begins rfl (r_begins x n nr ot cf sf F W L T V P hg hk hc hok hk30 hT hoy hF (by rw [List.length_reverse]; exact hst)) (Nat.le_of_ble_eq_true rfl) rfl (Nat.le_of_ble_eq_true rfl) (Nat.le_of_ble_eq_true rfl) ?_
      rintro _ _ (⟨h1, rfl, rfl⟩ | ⟨h1, h2, rfl, F', hF', rfl⟩ | ⟨h1, h2, rfl, rfl⟩)
      · subst h1
        rw [if_neg (by decide), if_pos rfl] at hC0
        by_cases hcl : cloS n A col k (bt y) = true
        · rw [if_pos hcl] at hC0
          rw [hcl]
          refine g_if_ne (pc1 := 60) (tgt := 62) dX8_check_57 rfl (by decide) (fun _ => ?_) (fun hbr9 => absurd hbr9 (by decide))
          refine g_iconst (v := 0) (pc1 := 63) dX8_check_62 rfl (by decide) ?_
          refine g_istore_n (i := 3) (pc1 := 64) dX8_check_63 rfl rfl (Nat.le_of_ble_eq_true rfl) ?_
          refine g_goto (tgt := 93) dX8_check_64 (by decide) ?_
          refine g_iinc (pc1 := 96) dX8_check_93 rfl rfl rfl ?_
          refine g_iload_n (i := 3) (pc1 := 97) dX8_check_96 rfl rfl rfl ?_
          refine g_if_ne (pc1 := 100) (tgt := 26) dX8_check_97 rfl (by decide) (fun hbr9 => absurd hbr9 (fun q => q rfl)) (fun _ => ?_)
          refine aGo.eq (ck_leave x n nr ot W L T V P hn hk30 (t := t + 1) (st := st) (a := col) hc hF hso (hC0.1 rfl (by show t + 1 ≤ lg.length; omega)) .null) ?_ rfl rfl
          show [Value.ref 24, .int (nI k), .int (nI t + Int32.ofInt 1), .int 0, .null] = _
          rw [show nI t + Int32.ofInt 1 = nI (t + 1) from nI_1 t]
        · rw [if_neg hcl] at hC0
          rw [show cloS n A col k (bt y) = false by simpa using hcl]
          refine g_if_ne (pc1 := 60) (tgt := 62) dX8_check_57 rfl (by decide) (fun hbr9 => absurd hbr9 (fun q => q rfl)) (fun _ => ?_)
          exact ck_bad x n nr ot W L T V P (hC0.2 rfl) 60 (Or.inr (Or.inl rfl)) _ _
      · subst h1
        rw [if_pos rfl, if_pos h2] at hC0
        rw [Bool.and_eq_true] at h2
        obtain ⟨v, hv, rfl⟩ := (vtx_iff hn).mp h2.1
        have hcl : (nI v).toNatClampNeg = v := nI_clamp (by omega)
        rw [hcl] at hC0 hF' h2
        have hv0 : col v = none := by
          have := h2.2
          unfold brP at this
          simp only [Bool.and_eq_true, Option.isNone_iff_eq_none] at this
          exact this.2
        have hun := hok.lt hv hv0
        have hF2 : fC F' ((v, 0, u) :: st).reverse := by rw [List.reverse_cons]; exact hF'
        refine g_if_ne (pc1 := 60) (tgt := 62) dX8_check_57 rfl (by decide) (fun _ => ?_) (fun hbr9 => absurd hbr9 (by decide))
        refine g_iconst (v := 0) (pc1 := 63) dX8_check_62 rfl (by decide) ?_
        refine g_istore_n (i := 3) (pc1 := 64) dX8_check_63 rfl rfl (Nat.le_of_ble_eq_true rfl) ?_
        refine g_goto (tgt := 93) dX8_check_64 (by decide) ?_
        refine g_iinc (pc1 := 96) dX8_check_93 rfl rfl rfl ?_
        refine g_iload_n (i := 3) (pc1 := 97) dX8_check_96 rfl rfl rfl ?_
        refine g_if_ne (pc1 := 100) (tgt := 26) dX8_check_97 rfl (by decide) (fun hbr9 => absurd hbr9 (fun q => q rfl)) (fun _ => ?_)
        refine aGo.eq (ck_leave x n nr ot W L T V P hn hk30 (t := t + 1) (st := (v, 0, u) :: st) (a := col) hc hF2 ?_ (ck_branch x n nr ot W L T V P hg hk hk30 hT hV col u v st hok hd hst hso hv hv0 31 0 (t + 1) col rfl (by omega) (clr_id hv0) hC0) .null) ?_ rfl rfl
        · intro e he
          rcases List.mem_cons.mp he with rfl | he
          · exact ⟨hv, Nat.zero_le _, by show u ≤ 30; omega⟩
          · exact hso e he
        · show [Value.ref 24, .int (nI k), .int (nI t + Int32.ofInt 1), .int 0, .null] = _
          rw [show nI t + Int32.ofInt 1 = nI (t + 1) from nI_1 t]
      · have hR : (false, t) = R0 := by
          by_cases h3 : o = 1
          · rw [if_pos h3, if_neg (fun q => h2 ⟨h3, q⟩)] at hC0
            exact hC0.2 rfl
          · rw [if_neg h3, if_neg h1] at hC0
            exact hC0.2 rfl
        refine g_if_ne (pc1 := 60) (tgt := 62) dX8_check_57 rfl (by decide) (fun hbr9 => absurd hbr9 (fun q => q rfl)) (fun _ => ?_)
        exact ck_bad x n nr ot W L T V P hR 60 (Or.inr (Or.inl rfl)) _ _
end
theorem q_check (σ : tSt) (x : Nat → aC) (N : tG) (Q : tQ) (F : tF) (W L T : tW) (V : tM) (P : fI) (h : rSt σ N L T V P) (y : Int32) : aRet 5 0 0 mX8_check [.ref 24, .int y] (rp x N Q F W L T V P) (rQ (spCheck y σ) x) := by
  have hh := h
  obtain ⟨h1, h2, h3, h4, h5⟩ := h
  have hn := h1.1
  have hl := h4.2.1
  obtain ⟨g1, nr, ot⟩ := N
  obtain rfl : g1 = nI σ.1 := h2.1
  obtain ⟨cf, sf⟩ := Q
  by_cases hb : 0 ≤ y ∧ y ≤ 30
  · obtain ⟨k, hk, rfl⟩ := i30.mp hb
    have hsp : spCheck (nI k) σ = (ckA σ.1 σ.2.1 k σ.2.2.2.1, σ) := by unfold spCheck; rw [if_pos hb, nI_clamp (by omega)]
    rw [hsp]
    refine aRet.mono (Q := fun w g => w = some (.int (if (pfR σ.1 σ.2.1 k σ.2.2.2.1).1 = true ∧ (pfR σ.1 σ.2.1 k σ.2.2.2.1).2 = σ.2.2.2.1.length then -1 else nI (pfR σ.1 σ.2.1 k σ.2.2.2.1).2)) ∧ ∃ (Q' : tQ) (F' : tF), g = rp x (nI σ.1, nr, ot) Q' F' W L T V P) ?_ (fun r g hq => by
      obtain ⟨rfl, Q', F', rfl⟩ := hq
      exact rQ.mk rfl hh)
    refine aRet.of (by decide) (Nat.le_of_ble_eq_true rfl) (a_ok2 rfl) ?_
    refine g_iload_n (i := 1) (pc1 := 1) dX8_check_0 rfl rfl rfl ?_
    refine g_if_lt (pc1 := 4) (tgt := 10) dX8_check_1 rfl (by decide) (fun hbr9 => absurd hbr9 (Int32.not_lt.mpr hb.1)) (fun _ => ?_)
    refine g_iload_n (i := 1) (pc1 := 5) dX8_check_4 rfl rfl rfl ?_
    refine g_bipush (v := 30) (pc1 := 7) dX8_check_5 rfl (by decide) ?_
    refine g_icmp_le (pc1 := 10) (tgt := 13) dX8_check_7 rfl (by decide) (fun _ => ?_) (fun hbr9 => absurd hb.2 hbr9)
    refine g_aload_n (i := 0) (pc1 := 14) dX8_check_13 rfl rfl rfl ?_
    refine g_V0 (M := mX8_clearColours) (pc1 := 17) dX8_check_14 rfl lkX8_109 tmX8_clearColours rfl (r_clearColours x cf sf F W L T V P (nI σ.1, nr, ot)) (Nat.le_of_ble_eq_true rfl) rfl (Nat.le_of_ble_eq_true rfl) (Nat.le_of_ble_eq_true rfl) ?_
    rintro _ _ ⟨rfl, rfl⟩
    show aGo _ 17 _ [] _ _ _
    have hc : rK (fil 30 (-1) cf) (fun _ => none) := fun v hv => by simp [fil, hv, enO]
    refine g_aload_n (i := 0) (pc1 := 18) dX8_check_17 rfl rfl rfl ?_
    refine g_iconst (v := 0) (pc1 := 19) dX8_check_18 rfl (by decide) ?_
    refine g_puti (pc1 := 22) dX8_check_19 rfl flX8_121 rfl (Nat.le_of_ble_eq_true rfl) rfl rfl ?_
    refine g_iconst (v := 0) (pc1 := 23) dX8_check_22 rfl (by decide) ?_
    refine g_istore_n (i := 2) (pc1 := 24) dX8_check_23 rfl rfl (Nat.le_of_ble_eq_true rfl) ?_
    refine g_iconst (v := 1) (pc1 := 25) dX8_check_24 rfl (by decide) ?_
    refine g_istore_n (i := 3) (pc1 := 26) dX8_check_25 rfl rfl (Nat.le_of_ble_eq_true rfl) ?_
    refine aGo.eq (h' := rp x (nI σ.1, nr, ot) (fil 30 (-1) cf, sf) (F.1, F.2.1, F.2.2.1, 0) W L T V P) ?_ rfl rfl rfl
    have hF0 : fC (F.1, F.2.1, F.2.2.1, 0) ([] : tSk).reverse := ⟨rfl, by decide, fun i a b c h => by simp at h⟩
    have hbr := cnt_le (brP σ.1 (fun _ => none)) σ.1
    refine aGo.eq (ck_pf x σ.1 nr ot W L T V P h2 h1 hk (R0 := pfR σ.1 σ.2.1 k σ.2.2.2.1) h4 31 (fun _ => none) 0 0 [] (Cok.none σ.1) (by omega) (by simp only [List.length_nil]; omega) (Nat.zero_le _) (fun e he => by cases he) ⟨fun hz hz2 => ?_, fun _ => rfl⟩ (fil 30 (-1) cf) sf (F.1, F.2.1, F.2.2.1, 0) hc hF0) rfl rfl rfl
    intro cf' sf' F' hc' hF'
    have hd0 : F'.2.2.2 = 0 := hF'.1
    have hR1 : (pfR σ.1 σ.2.1 k σ.2.2.2.1).1 = true := hz
    have hR2 : (pfR σ.1 σ.2.1 k σ.2.2.2.1).2 ≤ σ.2.2.2.1.length := hz2
    show aGo _ 26 [.ref 24, .int (nI k), .int (nI (pfR σ.1 σ.2.1 k σ.2.2.2.1).2), .int 0, .null] _ _ _ _
    refine g_iload_n (i := 3) (pc1 := 27) dX8_check_26 rfl rfl rfl ?_
    refine g_if_ne (pc1 := 30) (tgt := 37) dX8_check_27 rfl (by decide) (fun hbr9 => absurd hbr9 (fun q => q rfl)) (fun _ => ?_)
    refine g_aload_n (i := 0) (pc1 := 31) dX8_check_30 rfl rfl rfl ?_
    refine g_get (pc1 := 34) dX8_check_31 rfl flX8_121 rfl rfl ?_
    rw [hd0]
    refine g_if_le (pc1 := 37) (tgt := 108) dX8_check_34 rfl (by decide) (fun _ => ?_) (fun hbr9 => absurd (by decide) hbr9)
    refine g_iload_n (i := 2) (pc1 := 109) dX8_check_108 rfl rfl rfl ?_
    refine g_aload_n (i := 0) (pc1 := 110) dX8_check_109 rfl rfl rfl ?_
    refine g_get (pc1 := 113) dX8_check_110 rfl flX8_158 rfl rfl ?_
    rw [h4.1]
    refine g_icmp_ne (pc1 := 116) (tgt := 120) dX8_check_113 rfl (by decide) (fun c => ?_) (fun c => ?_)
    · refine g_iload_n (i := 2) (pc1 := 121) dX8_check_120 rfl rfl rfl ?_
      refine g_iret dX8_check_121 rfl rfl (Nat.le_of_ble_eq_true rfl) (Nat.le_of_ble_eq_true rfl) ?_
      refine ⟨?_, _, _, rfl⟩
      rw [if_neg (fun q => c (by rw [q.2]))]
    · have he := (nI_eq (a := (pfR σ.1 σ.2.1 k σ.2.2.2.1).2) (b := σ.2.2.2.1.length) (by omega) (by omega)).mp c
      refine g_iconst (v := (-1)) (pc1 := 117) dX8_check_116 rfl (by decide) ?_
      refine g_goto (tgt := 121) dX8_check_117 (by decide) ?_
      refine g_iret dX8_check_121 rfl rfl (Nat.le_of_ble_eq_true rfl) (Nat.le_of_ble_eq_true rfl) ?_
      refine ⟨?_, _, _, rfl⟩
      rw [if_pos ⟨hR1, he⟩]
  · have hsp : spCheck y σ = (-2, σ) := by unfold spCheck; rw [if_neg hb]
    rw [hsp]
    refine aRet.of (by decide) (Nat.le_of_ble_eq_true rfl) (a_ok2 rfl) ?_
    refine g_iload_n (i := 1) (pc1 := 1) dX8_check_0 rfl rfl rfl ?_
    refine g_if_lt (pc1 := 4) (tgt := 10) dX8_check_1 rfl (by decide) (fun c1 => ?_) (fun c1 => ?_)
    · refine g_bipush (v := (-2)) (pc1 := 12) dX8_check_10 rfl (by decide) ?_
      refine g_iret dX8_check_12 rfl rfl (Nat.le_of_ble_eq_true rfl) (Nat.le_of_ble_eq_true rfl) ?_
      exact rQ.mk rfl hh
    · refine g_iload_n (i := 1) (pc1 := 5) dX8_check_4 rfl rfl rfl ?_
      refine g_bipush (v := 30) (pc1 := 7) dX8_check_5 rfl (by decide) ?_
      refine g_icmp_le (pc1 := 10) (tgt := 13) dX8_check_7 rfl (by decide) (fun hbr9 => absurd hbr9 (fun q => hb ⟨Int32.not_lt.mp c1, q⟩)) (fun _ => ?_)
      refine g_bipush (v := (-2)) (pc1 := 12) dX8_check_10 rfl (by decide) ?_
      refine g_iret dX8_check_12 rfl rfl (Nat.le_of_ble_eq_true rfl) (Nat.le_of_ble_eq_true rfl) ?_
      exact rQ.mk rfl hh
