/-! ===== the reference: solve, search ===== -/
theorem nI_m3 {a : Nat} (h : a < 2 ^ 31) : ¬ nI a = -3 := fun q => nI_m1_lt h (by rw [q]; decide)
section
variable (x : Nat → aC) (n : Nat) (nr ot : fI) (Q : tQ) (F : tF) (W L T : tW) (V : tM) (P : fI)
/-- the cells behind solve() -/
def rQs (A : Nat → Nat → Bool) (v : Option Value) (g : List aC) : Prop := ∃ (Q' : tQ) (F' : tF) (W' : tW) (b t : fI), (((svR n A).1 = 2 ∧ v = some (.int (-3)) ∧ g = rp x (nI n, nr, ot) Q' F' W' L T (0, b, t) P) ∨
  ((svR n A).1 ≠ 2 ∧ v = some (.int (nI (svR n A).2.1.2)) ∧ ∃ L' : tW, bsC n b (svR n A).2.1.1 ∧ tlC t (svR n A).2.2.2 ∧ rL L' (svL n A) ∧ g = rp x (nI n, nr, ot) Q' F' W' L' T (1, b, t) P))
/-- the end of solve(): THE LOG is kept -/
theorem r_keep {A : Nat → Nat → Bool} {c1 c2 u p : Int32} {b t : fI} (h2 : (svR n A).1 ≠ 2) (hu : u = nI (svR n A).2.1.2) (hb : bsC n b (svR n A).2.1.1) (ht : tlC t (svR n A).2.2.2) (hW : rL W (svL n A)) : aGo (7, 0, 0, mX8_solve, none, rQs x n nr ot L T P A) 142 [.ref 24, .int c1, .int c2, .int u, .int p, .null] [] (rp x (nI n, nr, ot) Q F W L T (0, b, t) P) 0 0 := by
  have hl := hW.2.1
  obtain ⟨wf, wm⟩ := W
  obtain rfl : wm = nI (svL n A).length := hW.1
  refine g_iconst (v := 0) (pc1 := 143) dX8_solve_142 rfl (by decide) ?_
  refine g_istore (pc1 := 145) dX8_solve_143 rfl (Nat.le_of_ble_eq_true rfl) ?_
  have key : ∀ l : fI, (∀ j, j < 0 → l j = wf j) → aGo (7, 0, 0, mX8_solve, none, rQs x n nr ot L T P A) 145 [.ref 24, .int c1, .int c2, .int u, .int p, .int (nI 0)] [] (rp x (nI n, nr, ot) Q F (wf, nI (svL n A).length) (l, L.2) T (0, b, t) P) 0 0 := by
    refine down0 (P := fun i => ∀ l : fI, (∀ j, j < i → l j = wf j) → aGo _ 145 [.ref 24, .int c1, .int c2, .int u, .int p, .int (nI i)] [] (rp x (nI n, nr, ot) Q F (wf, nI (svL n A).length) (l, L.2) T (0, b, t) P) 0 0) (2 * (svL n A).length) ?_ ?_
    · intro l hl2
      refine g_iload (pc1 := 147) dX8_solve_145 rfl rfl ?_
      refine g_iconst (v := 2) (pc1 := 148) dX8_solve_147 rfl (by decide) ?_
      refine g_aload_n (i := 0) (pc1 := 149) dX8_solve_148 rfl rfl rfl ?_
      refine g_get (pc1 := 152) dX8_solve_149 rfl flX8_118 rfl rfl ?_
      refine g_imul (pc1 := 153) dX8_solve_152 rfl ?_
      dsimp only
      rw [ix2]
      refine g_icmp_ge (pc1 := 156) (tgt := 176) dX8_solve_153 rfl (by decide) (fun _ => ?_) (fun hbr9 => absurd (Int32.le_refl _) hbr9)
      refine g_aload_n (i := 0) (pc1 := 177) dX8_solve_176 rfl rfl rfl ?_
      refine g_aload_n (i := 0) (pc1 := 178) dX8_solve_177 rfl rfl rfl ?_
      refine g_get (pc1 := 181) dX8_solve_178 rfl flX8_118 rfl rfl ?_
      refine g_puti (pc1 := 184) dX8_solve_181 rfl flX8_155 rfl (Nat.le_of_ble_eq_true rfl) rfl rfl ?_
      refine g_aload_n (i := 0) (pc1 := 185) dX8_solve_184 rfl rfl rfl ?_
      refine g_iconst (v := 1) (pc1 := 186) dX8_solve_185 rfl (by decide) ?_
      refine g_puti (pc1 := 189) dX8_solve_186 rfl flX8_54 rfl (Nat.le_of_ble_eq_true rfl) rfl rfl ?_
      refine g_iload_n (i := 3) (pc1 := 190) dX8_solve_189 rfl rfl rfl ?_
      refine g_iret dX8_solve_190 rfl rfl (Nat.le_of_ble_eq_true rfl) (Nat.le_of_ble_eq_true rfl) ?_
      exact ⟨Q, F, _, b, t, Or.inr ⟨h2, by rw [hu], (l, nI (svL n A).length), hb, ht, hW.copy hl2, rfl⟩⟩
    · intro i hi ih l hl2
      refine g_iload (pc1 := 147) dX8_solve_145 rfl rfl ?_
      refine g_iconst (v := 2) (pc1 := 148) dX8_solve_147 rfl (by decide) ?_
      refine g_aload_n (i := 0) (pc1 := 149) dX8_solve_148 rfl rfl rfl ?_
      refine g_get (pc1 := 152) dX8_solve_149 rfl flX8_118 rfl rfl ?_
      refine g_imul (pc1 := 153) dX8_solve_152 rfl ?_
      dsimp only
      rw [ix2]
      refine g_icmp_ge (pc1 := 156) (tgt := 176) dX8_solve_153 rfl (by decide) (fun hbr9 => absurd hbr9 (fun c => absurd ((nI_leI (a := 2 * (svL n A).length) (b := i) (by omega) (by omega)).mp c) (by omega))) (fun _ => ?_)
      refine g_aload_n (i := 0) (pc1 := 157) dX8_solve_156 rfl rfl rfl ?_
      refine g_get (pc1 := 160) dX8_solve_157 rfl flX8_38 rfl rfl ?_
      refine g_iload (pc1 := 162) dX8_solve_160 rfl rfl ?_
      refine g_aload_n (i := 0) (pc1 := 163) dX8_solve_162 rfl rfl rfl ?_
      refine g_get (pc1 := 166) dX8_solve_163 rfl flX8_35 rfl rfl ?_
      refine g_iload (pc1 := 168) dX8_solve_166 rfl rfl ?_
      refine g_ialdJ (pc1 := 169) dX8_solve_168 rfl rfl rfl (by omega) (by decide) ?_
      refine g_iastJ (pc1 := 170) dX8_solve_169 rfl rfl rfl (by omega) (by decide) ?_
      refine g_iinc (pc1 := 173) dX8_solve_170 rfl rfl rfl ?_
      refine g_goto (tgt := 145) dX8_solve_173 (by decide) ?_
      refine aGo.eq (ih (upd l i (wf i)) (fun v hv => ?_)) ?_ rfl rfl
      · by_cases e : v = i
        · subst e; rw [pk_us]
        · rw [pk_un e]; exact hl2 v (by omega)
      · show [Value.ref 24, .int c1, .int c2, .int u, .int p, .int (nI i + Int32.ofInt 1)] = _
        rw [show nI i + Int32.ofInt 1 = nI (i + 1) from nI_1 i]
  exact aGo.eq (key L.1 (fun v h => absurd h (Nat.not_lt_zero v))) rfl rfl rfl
set_option maxHeartbeats 1000000 in
theorem r_loop {A : Nat → Nat → Bool} (hg : rG (nI n, nr, ot) n A) (hk : Gok n A) : ∀ (m : Nat) (cf sf : fI) (F : tF) (W : tW) (b : fI) (col : tCol) (u : Nat) (tf : fI) (t : tT), bsC n b col → Cok n col u → chS n A col = none → tlC tf t → u ≤ m → u ≤ 30 → svR n A = sv n A m (col, u) t →
    aGo (7, 0, 0, mX8_solve, none, rQs x n nr ot L T P A) 47 [.ref 24, .int (bS (clqR A n)), .int (nI (cq n A)), .int (nI u), .int 0, .null] [] (rp x (nI n, nr, ot) (cf, sf) F W L T (0, b, tf) P) 0 0 := by
  have hn := hk.1
  have hcq : cq n A ≤ 32 := cnt_le _ _
  have fin : ∀ (cf sf : fI) (F : tF) (W : tW) (b : fI) (col : tCol) (u : Nat) (tf : fI) (t : tT), bsC n b col → Cok n col u → chS n A col = none → tlC tf t → u ≤ 30 → svR n A = (1, (col, u), [], t) →
      aGo (7, 0, 0, mX8_solve, none, rQs x n nr ot L T P A) 112 [.ref 24, .int (bS (clqR A n)), .int (nI (cq n A)), .int (nI u), .int 0, .null] [] (rp x (nI n, nr, ot) (cf, sf) F W L T (0, b, tf) P) 0 0 := by
    intro cf sf F W b col u tf t hb hok hf ht hu hR
    have h0 : bS (clqR A n) = 0 ↔ u = 0 := (clqR_0 hn).trans (full_0 hok hf).symm
    have hW0 : rL (W.1, 0) [] := ⟨rfl, by decide, fun i a b h => by simp at h⟩
    refine g_iload (pc1 := 114) dX8_solve_112 rfl rfl ?_
    refine g_if_ne (pc1 := 117) (tgt := 142) dX8_solve_114 rfl (by decide) (fun hbr9 => absurd hbr9 (fun q => q rfl)) (fun _ => ?_)
    refine g_aload_n (i := 0) (pc1 := 118) dX8_solve_117 rfl rfl rfl ?_
    refine g_iconst (v := 0) (pc1 := 119) dX8_solve_118 rfl (by decide) ?_
    refine g_puti (pc1 := 122) dX8_solve_119 rfl flX8_118 rfl (Nat.le_of_ble_eq_true rfl) rfl rfl ?_
    refine g_iload_n (i := 3) (pc1 := 123) dX8_solve_122 rfl rfl rfl ?_
    refine aGo.eq (h' := rp x (nI n, nr, ot) (cf, sf) F (W.1, 0) L T (0, b, tf) P) ?_ rfl rfl rfl
    refine g_if_eq (pc1 := 126) (tgt := 135) dX8_solve_123 rfl (by decide) (fun c => ?_) (fun c => ?_)
    · have hu0 : u = 0 := (nI_eq (a := u) (b := 0) (by omega) (by omega)).mp c
      have hL : svL n A = [] := by unfold svL; rw [hR, if_neg (show ¬ (1 : Nat) = 0 by decide), if_pos (h0.mpr hu0)]
      refine g_iconst (v := 1) (pc1 := 136) dX8_solve_135 rfl (by decide) ?_
      refine g_goto (tgt := 140) dX8_solve_136 (by decide) ?_
      refine g_istore (pc1 := 142) dX8_solve_140 rfl (Nat.le_of_ble_eq_true rfl) ?_
      refine aGo.forget 5 ?_
      exact r_keep x n nr ot (cf, sf) F (W.1, 0) L T P (by rw [hR]; exact (show (1 : Nat) ≠ 2 by decide)) (by rw [hR]) (by rw [hR]; exact hb) (by rw [hR]; exact ht) (by rw [hL]; exact hW0)
    · have hu0 : ¬ u = 0 := fun q => c (by rw [q]; rfl)
      have hL : svL n A = [] ++ [(4, bS (clqR A n))] := by unfold svL; rw [hR, if_neg (show ¬ (1 : Nat) = 0 by decide), if_neg (fun q => hu0 (h0.mp q))]; rfl
      refine g_aload_n (i := 0) (pc1 := 127) dX8_solve_126 rfl rfl rfl ?_
      refine g_iconst (v := 4) (pc1 := 128) dX8_solve_127 rfl (by decide) ?_
      refine g_iload_n (i := 1) (pc1 := 129) dX8_solve_128 rfl rfl rfl ?_
      refine g_V2 (M := mX8_write) (pc1 := 132) dX8_solve_129 rfl lkX8_127 tmX8_write rfl (r_write x L T (0, b, tf) P (nI n, nr, ot) (cf, sf) F (W.1, 0) hW0 4 (bS (clqR A n))) (Nat.le_of_ble_eq_true rfl) rfl (Nat.le_of_ble_eq_true rfl) (Nat.le_of_ble_eq_true rfl) ?_
      rintro _ _ (⟨_, rfl, W', hW', rfl⟩ | ⟨q, _⟩)
      · refine g_if_eq (pc1 := 135) (tgt := 139) dX8_solve_132 rfl (by decide) (fun hbr9 => absurd hbr9 (by decide)) (fun _ => ?_)
        refine g_iconst (v := 1) (pc1 := 136) dX8_solve_135 rfl (by decide) ?_
        refine g_goto (tgt := 140) dX8_solve_136 (by decide) ?_
        refine g_istore (pc1 := 142) dX8_solve_140 rfl (Nat.le_of_ble_eq_true rfl) ?_
        refine aGo.forget 5 ?_
        exact r_keep x n nr ot (cf, sf) F W' L T P (by rw [hR]; exact (show (1 : Nat) ≠ 2 by decide)) (by rw [hR]) (by rw [hR]; exact hb) (by rw [hR]; exact ht) (by rw [hL]; exact hW')
      · exact absurd (by decide) q
  intro m
  induction m with
  | zero =>
    intro cf sf F W b col u tf t hb hok hf ht hum hu hR
    obtain rfl : u = 0 := by omega
    refine g_iload_n (i := 3) (pc1 := 48) dX8_solve_47 rfl rfl rfl ?_
    refine g_iload_n (i := 2) (pc1 := 49) dX8_solve_48 rfl rfl rfl ?_
    refine g_icmp_le (pc1 := 52) (tgt := 112) dX8_solve_49 rfl (by decide) (fun _ => ?_) (fun hbr9 => absurd ((nI_leI (a := 0) (b := cq n A) (by omega) (by omega)).mpr (Nat.zero_le _)) hbr9)
    exact fin cf sf F W b col 0 tf t hb hok hf ht hu hR
  | succ m ih =>
    intro cf sf F W b col u tf t hb hok hf ht hum hu hR
    unfold sv at hR
    refine g_iload_n (i := 3) (pc1 := 48) dX8_solve_47 rfl rfl rfl ?_
    refine g_iload_n (i := 2) (pc1 := 49) dX8_solve_48 rfl rfl rfl ?_
    refine g_icmp_le (pc1 := 52) (tgt := 112) dX8_solve_49 rfl (by decide) (fun c => ?_) (fun c => ?_)
    · have hle : u ≤ cq n A := (nI_leI (a := u) (b := cq n A) (by omega) (by omega)).mp c
      rw [if_neg (by show ¬ cq n A < u; omega)] at hR
      exact fin cf sf F W b col u tf t hb hok hf ht hu hR
    · have hlt : cq n A < u := by
        have : ¬ u ≤ cq n A := fun q => c ((nI_leI (a := u) (b := cq n A) (by omega) (by omega)).mpr q)
        omega
      rw [if_pos hlt] at hR
      simp only [] at hR
      refine g_iload (pc1 := 54) dX8_solve_52 rfl rfl ?_
      refine g_if_ne (pc1 := 57) (tgt := 112) dX8_solve_54 rfl (by decide) (fun hbr9 => absurd hbr9 (fun q => q rfl)) (fun _ => ?_)
      refine g_aload_n (i := 0) (pc1 := 58) dX8_solve_57 rfl rfl rfl ?_
      refine g_iload_n (i := 3) (pc1 := 59) dX8_solve_58 rfl rfl rfl ?_
      refine g_iconst (v := 1) (pc1 := 60) dX8_solve_59 rfl (by decide) ?_
      refine g_isub (pc1 := 61) dX8_solve_60 rfl ?_
      rw [show nI u - 1 = nI (u - 1) by rw [show u = (u - 1) + 1 by omega, nI_pred]; simp]
      refine g_V1 (M := mX8_seek) (pc1 := 64) dX8_solve_61 rfl lkX8_149 tmX8_seek rfl (r_seek x n nr ot L T (0, b, tf) P hg hk (k := u - 1) (by omega) cf sf F W) (Nat.le_of_ble_eq_true rfl) rfl (Nat.le_of_ble_eq_true rfl) (Nat.le_of_ble_eq_true rfl) ?_
      have hle2 : (srR n A (u - 1)).1 ≤ 2 := vis_le _ _ _ _
      rintro _ _ ⟨cf2, sf2, F2, W2, rfl, rfl, hq1, hq2⟩
      refine g_istore (pc1 := 66) dX8_solve_64 rfl (Nat.le_of_ble_eq_true rfl) ?_
      refine g_iload (pc1 := 68) dX8_solve_66 rfl rfl ?_
      refine g_bipush (v := (-3)) (pc1 := 70) dX8_solve_68 rfl (by decide) ?_
      by_cases h2 : (srR n A (u - 1)).1 = 2
      · rw [if_pos h2]
        rw [if_neg (by omega)] at hR
        refine g_icmp_ne (pc1 := 73) (tgt := 76) dX8_solve_70 rfl (by decide) (fun hbr9 => absurd hbr9 (fun q => q rfl)) (fun _ => ?_)
        refine g_bipush (v := (-3)) (pc1 := 75) dX8_solve_73 rfl (by decide) ?_
        refine g_iret dX8_solve_75 rfl rfl (Nat.le_of_ble_eq_true rfl) (Nat.le_of_ble_eq_true rfl) ?_
        exact ⟨(cf2, sf2), F2, W2, b, tf, Or.inl ⟨by rw [hR]; exact h2, rfl, rfl⟩⟩
      · rw [if_neg h2]
        have hW2 := hq1 h2
        refine g_icmp_ne (pc1 := 73) (tgt := 76) dX8_solve_70 rfl (by decide) (fun _ => ?_) (fun hbr9 => absurd hbr9 (nI_m3 (by omega)))
        refine g_aload_n (i := 0) (pc1 := 77) dX8_solve_76 rfl rfl rfl ?_
        refine g_iload (pc1 := 79) dX8_solve_77 rfl rfl ?_
        refine g_V1 (M := mX8_countWork) (pc1 := 82) dX8_solve_79 rfl lkX8_152 tmX8_countWork rfl (r_countWork x F2 W2 L T (0, b, tf) P (nI n, nr, ot) (cf2, sf2) hW2 (nI (srR n A (u - 1)).1)) (Nat.le_of_ble_eq_true rfl) rfl (Nat.le_of_ble_eq_true rfl) (Nat.le_of_ble_eq_true rfl) ?_
        rintro _ _ ⟨rfl, t2, e0, e1, e2, e3, e4, rfl⟩
        show aGo _ 82 _ [] _ _ _
        dsimp only at e0 e1 e2 e3 e4
        have htl : tlC t2 (tly t (srR n A (u - 1))) := by
          obtain ⟨p0, p1, p2, p3, p4⟩ := ht
          refine ⟨?_, ?_, ?_, ?_, ?_⟩
          · rw [e0, p0, nI_1]; rfl
          · rw [e1, p1, nI_add]; rfl
          · rw [e2, p2, nI_add]; rfl
          · rw [e3, p3, nI_add]; rfl
          · rw [e4, p4]
            show _ = nI (t.2.2.2.2 + (if (srR n A (u - 1)).1 = 1 then 1 else 0))
            by_cases h5 : (srR n A (u - 1)).1 = 1
            · rw [if_pos h5, h5, nI_add]
            · rw [if_neg h5, show (srR n A (u - 1)).1 = 0 by omega, nI_add]
        by_cases h5 : (srR n A (u - 1)).1 = 1
        · rw [if_pos h5] at hR
          obtain ⟨f1, f2, f3⟩ := srR_found (by omega) h5
          rw [h5]
          refine g_iload (pc1 := 84) dX8_solve_82 rfl rfl ?_
          refine g_iconst (v := 1) (pc1 := 85) dX8_solve_84 rfl (by decide) ?_
          refine g_icmp_ne (pc1 := 88) (tgt := 97) dX8_solve_85 rfl (by decide) (fun hbr9 => absurd hbr9 (fun q => q rfl)) (fun _ => ?_)
          refine g_aload_n (i := 0) (pc1 := 89) dX8_solve_88 rfl rfl rfl ?_
          refine g_V0 (M := mX8_keepBest) (pc1 := 92) dX8_solve_89 rfl lkX8_146 tmX8_keepBest rfl (r_keepBest x n nr ot cf2 sf2 F2 W2 L T (0, b, t2) P hn (hq2 h5)) (Nat.le_of_ble_eq_true rfl) rfl (Nat.le_of_ble_eq_true rfl) (Nat.le_of_ble_eq_true rfl) ?_
          rintro _ _ ⟨rfl, b2, hb2, rfl⟩
          show aGo _ 92 _ [] _ _ _
          refine g_aload_n (i := 0) (pc1 := 93) dX8_solve_92 rfl rfl rfl ?_
          refine g_V0 (M := mX8_standing) (pc1 := 96) dX8_solve_93 rfl lkX8_115 tmX8_standing rfl (r_standing x n cf2 sf2 F2 W2 L T (0, b2, t2) P (nI n, nr, ot) rfl hn (hq2 h5) f1.c30) (Nat.le_of_ble_eq_true rfl) rfl (Nat.le_of_ble_eq_true rfl) (Nat.le_of_ble_eq_true rfl) ?_
          rintro _ _ ⟨rfl, rfl⟩
          rw [stN_u f1]
          refine g_istore_n (i := 3) (pc1 := 97) dX8_solve_96 rfl rfl (Nat.le_of_ble_eq_true rfl) ?_
          refine g_iload (pc1 := 99) dX8_solve_97 rfl rfl ?_
          refine g_if_ne (pc1 := 102) (tgt := 106) dX8_solve_99 rfl (by decide) (fun _ => ?_) (fun hbr9 => absurd hbr9 (by decide))
          refine g_iconst (v := 0) (pc1 := 107) dX8_solve_106 rfl (by decide) ?_
          refine g_istore (pc1 := 109) dX8_solve_107 rfl (Nat.le_of_ble_eq_true rfl) ?_
          refine g_goto (tgt := 47) dX8_solve_109 (by decide) ?_
          refine aGo.forget 5 ?_
          exact ih cf2 sf2 F2 W2 b2 (srR n A (u - 1)).2.2.1 (srR n A (u - 1)).2.2.2 t2 _ hb2 f1 f3 htl (by omega) (by omega) hR
        · rw [if_neg h5] at hR
          have h0 : (srR n A (u - 1)).1 = 0 := by omega
          rw [h0] at hR ⊢
          refine g_iload (pc1 := 84) dX8_solve_82 rfl rfl ?_
          refine g_iconst (v := 1) (pc1 := 85) dX8_solve_84 rfl (by decide) ?_
          refine g_icmp_ne (pc1 := 88) (tgt := 97) dX8_solve_85 rfl (by decide) (fun _ => ?_) (fun hbr9 => absurd hbr9 (by decide))
          refine g_iload (pc1 := 99) dX8_solve_97 rfl rfl ?_
          refine g_if_ne (pc1 := 102) (tgt := 106) dX8_solve_99 rfl (by decide) (fun hbr9 => absurd hbr9 (fun q => q rfl)) (fun _ => ?_)
          refine g_iconst (v := 1) (pc1 := 103) dX8_solve_102 rfl (by decide) ?_
          refine g_goto (tgt := 107) dX8_solve_103 (by decide) ?_
          refine g_istore (pc1 := 109) dX8_solve_107 rfl (Nat.le_of_ble_eq_true rfl) ?_
          refine g_goto (tgt := 47) dX8_solve_109 (by decide) ?_
          refine g_iload_n (i := 3) (pc1 := 48) dX8_solve_47 rfl rfl rfl ?_
          refine g_iload_n (i := 2) (pc1 := 49) dX8_solve_48 rfl rfl rfl ?_
          refine g_icmp_le (pc1 := 52) (tgt := 112) dX8_solve_49 rfl (by decide) (fun c3 => ?_) (fun c3 => ?_)
          · refine g_iload (pc1 := 114) dX8_solve_112 rfl rfl ?_
            refine g_if_ne (pc1 := 117) (tgt := 142) dX8_solve_114 rfl (by decide) (fun _ => ?_) (fun hbr9 => absurd hbr9 (by decide))
            refine aGo.forget 5 ?_
            exact r_keep x n nr ot (cf2, sf2) F2 W2 L T P (by rw [hR]; exact (show (0 : Nat) ≠ 2 by decide)) (by rw [hR]) (by rw [hR]; exact hb) (by rw [hR]; exact htl) (by unfold svL; rw [hR, if_pos rfl]; exact hW2)
          · refine g_iload (pc1 := 54) dX8_solve_52 rfl rfl ?_
            refine g_if_ne (pc1 := 57) (tgt := 112) dX8_solve_54 rfl (by decide) (fun _ => ?_) (fun hbr9 => absurd hbr9 (by decide))
            refine g_iload (pc1 := 114) dX8_solve_112 rfl rfl ?_
            refine g_if_ne (pc1 := 117) (tgt := 142) dX8_solve_114 rfl (by decide) (fun _ => ?_) (fun hbr9 => absurd hbr9 (by decide))
            refine aGo.forget 5 ?_
            exact r_keep x n nr ot (cf2, sf2) F2 W2 L T P (by rw [hR]; exact (show (0 : Nat) ≠ 2 by decide)) (by rw [hR]) (by rw [hR]; exact hb) (by rw [hR]; exact htl) (by unfold svL; rw [hR, if_pos rfl]; exact hW2)
set_option maxHeartbeats 1000000 in
theorem r_solve {A : Nat → Nat → Bool} (hg : rG (nI n, nr, ot) n A) (hk : Gok n A) : aRet 7 0 0 mX8_solve [.ref 24] (rp x (nI n, nr, ot) Q F W L T V P) (rQs x n nr ot L T P A) := by
  have hn := hk.1
  obtain ⟨cf, sf⟩ := Q
  obtain ⟨vs, vb, vt⟩ := V
  refine aRet.of (by decide) (Nat.le_of_ble_eq_true rfl) (a_ok2 rfl) ?_
  refine g_aload_n (i := 0) (pc1 := 1) dX8_solve_0 rfl rfl rfl ?_
  refine g_iconst (v := 0) (pc1 := 2) dX8_solve_1 rfl (by decide) ?_
  refine g_puti (pc1 := 5) dX8_solve_2 rfl flX8_54 rfl (Nat.le_of_ble_eq_true rfl) rfl rfl ?_
  refine g_iconst (v := 0) (pc1 := 6) dX8_solve_5 rfl (by decide) ?_
  refine g_istore_n (i := 1) (pc1 := 7) dX8_solve_6 rfl rfl (Nat.le_of_ble_eq_true rfl) ?_
  have key : ∀ t : fI, (∀ j, j < 0 → t j = 0) → aGo (7, 0, 0, mX8_solve, none, rQs x n nr ot L T P A) 7 [.ref 24, .int (nI 0), .null, .null, .null, .null] [] (rp x (nI n, nr, ot) (cf, sf) F W L T (0, vb, t) P) 0 0 := by
    refine down0 (P := fun i => ∀ t : fI, (∀ j, j < i → t j = 0) → aGo _ 7 [.ref 24, .int (nI i), .null, .null, .null, .null] [] (rp x (nI n, nr, ot) (cf, sf) F W L T (0, vb, t) P) 0 0) 5 ?_ ?_
    · intro t ht
      refine g_iload_n (i := 1) (pc1 := 8) dX8_solve_7 rfl rfl rfl ?_
      refine g_iconst (v := 5) (pc1 := 9) dX8_solve_8 rfl (by decide) ?_
      refine g_icmp_ge (pc1 := 12) (tgt := 25) dX8_solve_9 rfl (by decide) (fun _ => ?_) (fun hbr9 => absurd (by decide) hbr9)
      refine g_aload_n (i := 0) (pc1 := 26) dX8_solve_25 rfl rfl rfl ?_
      refine g_V0 (M := mX8_clique) (pc1 := 29) dX8_solve_26 rfl lkX8_140 tmX8_clique rfl (r_clique x n nr ot cf sf F W L T (0, vb, t) P hg hk) (Nat.le_of_ble_eq_true rfl) rfl (Nat.le_of_ble_eq_true rfl) (Nat.le_of_ble_eq_true rfl) ?_
      rintro _ _ ⟨rfl, cf1, sf1, rfl⟩
      refine g_istore_n (i := 1) (pc1 := 30) dX8_solve_29 rfl rfl (Nat.le_of_ble_eq_true rfl) ?_
      refine g_iload_n (i := 1) (pc1 := 31) dX8_solve_30 rfl rfl rfl ?_
      refine g_S1 (M := mX8_size) (pc1 := 34) dX8_solve_31 rfl lkX8_106 tmX8_size (r_size (clqR A n)) (Nat.le_of_ble_eq_true rfl) rfl (Nat.le_of_ble_eq_true rfl) (Nat.le_of_ble_eq_true rfl) ?_
      rintro _ _ ⟨rfl, rfl⟩
      refine g_istore_n (i := 2) (pc1 := 35) dX8_solve_34 rfl rfl (Nat.le_of_ble_eq_true rfl) ?_
      refine g_aload_n (i := 0) (pc1 := 36) dX8_solve_35 rfl rfl rfl ?_
      refine g_V0 (M := mX8_first) (pc1 := 39) dX8_solve_36 rfl lkX8_143 tmX8_first rfl (r_first x n nr ot cf1 sf1 F W L T (0, vb, t) P hg hk) (Nat.le_of_ble_eq_true rfl) rfl (Nat.le_of_ble_eq_true rfl) (Nat.le_of_ble_eq_true rfl) ?_
      rintro _ _ ⟨rfl, cf2, hc2, rfl⟩
      refine g_istore_n (i := 3) (pc1 := 40) dX8_solve_39 rfl rfl (Nat.le_of_ble_eq_true rfl) ?_
      refine g_aload_n (i := 0) (pc1 := 41) dX8_solve_40 rfl rfl rfl ?_
      refine g_V0 (M := mX8_keepBest) (pc1 := 44) dX8_solve_41 rfl lkX8_146 tmX8_keepBest rfl (r_keepBest x n nr ot cf2 sf1 F W L T (0, vb, t) P hn hc2) (Nat.le_of_ble_eq_true rfl) rfl (Nat.le_of_ble_eq_true rfl) (Nat.le_of_ble_eq_true rfl) ?_
      rintro _ _ ⟨rfl, b, hb, rfl⟩
      show aGo _ 44 _ [] _ _ _
      refine g_iconst (v := 0) (pc1 := 45) dX8_solve_44 rfl (by decide) ?_
      refine g_istore (pc1 := 47) dX8_solve_45 rfl (Nat.le_of_ble_eq_true rfl) ?_
      have hu30 : (fgS n A n).2 ≤ 30 := by have := (fgS_ok n A n).le; omega
      exact aGo.eq (r_loop x n nr ot L T P hg hk 30 cf2 sf1 F W b (fgS n A n).1 (fgS n A n).2 t (0, 0, 0, 0, 0) hb (fgS_ok n A n) (fgS_full n A) ⟨ht 0 (by decide), ht 1 (by decide), ht 2 (by decide), ht 3 (by decide), ht 4 (by decide)⟩ hu30 hu30 rfl) rfl rfl rfl
    · intro i hi ih t ht
      refine g_iload_n (i := 1) (pc1 := 8) dX8_solve_7 rfl rfl rfl ?_
      refine g_iconst (v := 5) (pc1 := 9) dX8_solve_8 rfl (by decide) ?_
      refine g_icmp_ge (pc1 := 12) (tgt := 25) dX8_solve_9 rfl (by decide) (fun hbr9 => absurd hbr9 (fun c => absurd ((nI_leI (a := 5) (b := i) (by omega) (by omega)).mp c) (by omega))) (fun _ => ?_)
      refine g_aload_n (i := 0) (pc1 := 13) dX8_solve_12 rfl rfl rfl ?_
      refine g_get (pc1 := 16) dX8_solve_13 rfl flX8_44 rfl rfl ?_
      refine g_iload_n (i := 1) (pc1 := 17) dX8_solve_16 rfl rfl rfl ?_
      refine g_iconst (v := 0) (pc1 := 18) dX8_solve_17 rfl (by decide) ?_
      refine g_iastJ (pc1 := 19) dX8_solve_18 rfl rfl rfl (by omega) (by decide) ?_
      refine g_iinc (pc1 := 22) dX8_solve_19 rfl rfl rfl ?_
      refine g_goto (tgt := 7) dX8_solve_22 (by decide) ?_
      refine aGo.eq (ih (upd t i 0) (fun v hv => ?_)) ?_ rfl rfl
      · by_cases e : v = i
        · subst e; rw [pk_us]
        · rw [pk_un e]; exact ht v (by omega)
      · show [Value.ref 24, .int (nI i + Int32.ofInt 1), .null, .null, .null, .null] = _
        rw [show nI i + Int32.ofInt 1 = nI (i + 1) from nI_1 i]
  exact aGo.eq (key vt (fun v h => absurd h (Nat.not_lt_zero v))) rfl rfl rfl
end
theorem q_solve (σ : tSt) (x : Nat → aC) (N : tG) (Q : tQ) (F : tF) (W L T : tW) (V : tM) (P : fI) (h : rSt σ N L T V P) : aRet 7 0 0 mX8_solve [.ref 24] (rp x N Q F W L T V P) (rQ (spSolve σ) x) := by
  obtain ⟨h1, h2, h3, h4, h5⟩ := h
  obtain ⟨g1, nr, ot⟩ := N
  obtain rfl : g1 = nI σ.1 := h2.1
  refine aRet.mono (r_solve x σ.1 nr ot Q F W L T V P h2 h1) fun r g hq => ?_
  obtain ⟨Q', F', W', b, t, ⟨e1, rfl, rfl⟩ | ⟨e1, rfl, L', hb, ht, hL, rfl⟩⟩ := hq
  · exact rQ.mk (σ := (σ.1, σ.2.1, none, σ.2.2.2)) (by unfold spSolve; rw [if_pos e1]) ⟨h1, h2, rfl, h4, h5⟩
  · refine rQ.mk (σ := (σ.1, σ.2.1, some ((svR σ.1 σ.2.1).2.1.1, svL σ.1 σ.2.1, (svR σ.1 σ.2.1).2.2.2), σ.2.2.2)) (by unfold spSolve; rw [if_neg e1]) ⟨h1, h2, ⟨rfl, hb, fun v c q => ((svR_ok h1.1 σ.2.1).1 v c q).2, ht, hL⟩, h4, h5⟩
theorem q_search (σ : tSt) (x : Nat → aC) (N : tG) (Q : tQ) (F : tF) (W L T : tW) (V : tM) (P : fI) (h : rSt σ N L T V P) (y : Int32) : aRet 7 0 0 mX8_search [.ref 24, .int y] (rp x N Q F W L T V P) (rQ (spSearch y σ) x) := by
  have hh := h
  obtain ⟨h1, h2, h3, h4, h5⟩ := h
  obtain ⟨g1, nr, ot⟩ := N
  obtain rfl : g1 = nI σ.1 := h2.1
  obtain ⟨cf, sf⟩ := Q
  refine aRet.of (by decide) (Nat.le_of_ble_eq_true rfl) (a_ok2 rfl) ?_
  refine g_iload_n (i := 1) (pc1 := 1) dX8_search_0 rfl rfl rfl ?_
  refine g_if_lt (pc1 := 4) (tgt := 10) dX8_search_1 rfl (by decide) (fun c1 => ?_) (fun c1 => ?_)
  · refine g_iconst (v := (-1)) (pc1 := 11) dX8_search_10 rfl (by decide) ?_
    refine g_iret dX8_search_11 rfl rfl (Nat.le_of_ble_eq_true rfl) (Nat.le_of_ble_eq_true rfl) ?_
    exact rQ.mk (by unfold spSearch; rw [if_neg (fun q => absurd c1 (Int32.not_lt.mpr q.1))]) hh
  · refine g_iload_n (i := 1) (pc1 := 5) dX8_search_4 rfl rfl rfl ?_
    refine g_bipush (v := 30) (pc1 := 7) dX8_search_5 rfl (by decide) ?_
    refine g_icmp_le (pc1 := 10) (tgt := 12) dX8_search_7 rfl (by decide) (fun c2 => ?_) (fun c2 => ?_)
    · obtain ⟨k, hk, rfl⟩ := i30.mp ⟨Int32.not_lt.mp c1, c2⟩
      have hsp : spSearch (nI k) σ = if (srR σ.1 σ.2.1 k).1 = 2 then (-3, σ) else (nI (srR σ.1 σ.2.1 k).1, (σ.1, σ.2.1, σ.2.2.1, (srR σ.1 σ.2.1 k).2.1, σ.2.2.2.2)) := by unfold spSearch; rw [if_pos ⟨Int32.not_lt.mp c1, c2⟩, nI_clamp (by omega)]
      rw [hsp]
      refine g_aload_n (i := 0) (pc1 := 13) dX8_search_12 rfl rfl rfl ?_
      refine g_iload_n (i := 1) (pc1 := 14) dX8_search_13 rfl rfl rfl ?_
      refine g_V1 (M := mX8_seek) (pc1 := 17) dX8_search_14 rfl lkX8_149 tmX8_seek rfl (r_seek x σ.1 nr ot L T V P h2 h1 hk cf sf F W) (Nat.le_of_ble_eq_true rfl) rfl (Nat.le_of_ble_eq_true rfl) (Nat.le_of_ble_eq_true rfl) ?_
      have hle : (srR σ.1 σ.2.1 k).1 ≤ 2 := vis_le _ _ _ _
      rintro _ _ ⟨cf2, sf2, F2, W2, rfl, rfl, hq1, hq2⟩
      refine g_istore_n (i := 2) (pc1 := 18) dX8_search_17 rfl rfl (Nat.le_of_ble_eq_true rfl) ?_
      refine g_iload_n (i := 2) (pc1 := 19) dX8_search_18 rfl rfl rfl ?_
      refine g_bipush (v := (-3)) (pc1 := 21) dX8_search_19 rfl (by decide) ?_
      by_cases h6 : (srR σ.1 σ.2.1 k).1 = 2
      · rw [if_pos h6, if_pos h6]
        refine g_icmp_ne (pc1 := 24) (tgt := 27) dX8_search_21 rfl (by decide) (fun hbr9 => absurd hbr9 (fun q => q rfl)) (fun _ => ?_)
        refine g_bipush (v := (-3)) (pc1 := 26) dX8_search_24 rfl (by decide) ?_
        refine g_iret dX8_search_26 rfl rfl (Nat.le_of_ble_eq_true rfl) (Nat.le_of_ble_eq_true rfl) ?_
        exact rQ.mk rfl hh
      · rw [if_neg h6, if_neg h6]
        refine g_icmp_ne (pc1 := 24) (tgt := 27) dX8_search_21 rfl (by decide) (fun _ => ?_) (fun hbr9 => absurd hbr9 (nI_m3 (by omega)))
        refine g_aload_n (i := 0) (pc1 := 28) dX8_search_27 rfl rfl rfl ?_
        refine g_V0 (M := mX8_tellWritten) (pc1 := 31) dX8_search_28 rfl lkX8_161 tmX8_tellWritten rfl (r_tellWritten x F2 W2 L T V P (nI σ.1, nr, ot) (cf2, sf2) (hq1 h6)) (Nat.le_of_ble_eq_true rfl) rfl (Nat.le_of_ble_eq_true rfl) (Nat.le_of_ble_eq_true rfl) ?_
        rintro _ _ ⟨rfl, T', hT', rfl⟩
        show aGo _ 31 _ [] _ _ _
        refine g_iload_n (i := 2) (pc1 := 32) dX8_search_31 rfl rfl rfl ?_
        refine g_iret dX8_search_32 rfl rfl (Nat.le_of_ble_eq_true rfl) (Nat.le_of_ble_eq_true rfl) ?_
        exact rQ.mk (σ := (σ.1, σ.2.1, σ.2.2.1, (srR σ.1 σ.2.1 k).2.1, σ.2.2.2.2)) rfl ⟨h1, h2, h3, hT', h5⟩
    · refine g_iconst (v := (-1)) (pc1 := 11) dX8_search_10 rfl (by decide) ?_
      refine g_iret dX8_search_11 rfl rfl (Nat.le_of_ble_eq_true rfl) (Nat.le_of_ble_eq_true rfl) ?_
      exact rQ.mk (by unfold spSearch; rw [if_neg (fun q => c2 q.2)]) hh
