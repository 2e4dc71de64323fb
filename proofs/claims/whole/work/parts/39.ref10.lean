/-! ===== the reference: the calls that tell ===== -/
theorem prt_0 {W : tW} {lg : tLog} (h : rL W lg) {j : Nat} (hj : j < lg.length) : prt lg (nI j) 0 = W.1 (2 * j) ∧ prt lg (nI j) 1 = W.1 (2 * j + 1) := by
  have hl := h.2.1
  obtain ⟨⟨a, b⟩, hab⟩ : ∃ e, lg[j]? = some e := ⟨lg[j], List.getElem?_eq_getElem hj⟩
  have hw := h.2.2 j a b hab
  have hin : 0 ≤ nI j ∧ nI j < nI lg.length := (hol_iff (by omega)).mpr ⟨j, hj, rfl⟩
  have hd : lg.getD j (0, 0) = (a, b) := by rw [List.getD_eq_getElem?_getD, hab]; rfl
  unfold prt
  rw [if_pos hin, if_pos hin, if_pos rfl, if_neg (by decide), if_pos rfl, nI_clamp (by omega), hd, hw.1, hw.2]
  exact ⟨rfl, rfl⟩
theorem prt_o {lg : tLog} {i w : Int32} (h : ¬ (0 ≤ i ∧ i < nI lg.length)) : prt lg i w = -1 := by unfold prt; rw [if_neg h]
theorem prt_w {lg : tLog} {i w : Int32} (h : ¬ (0 ≤ w ∧ w ≤ 1)) : prt lg i w = -1 := by
  unfold prt
  rw [if_neg (c := w = 0) (fun q => h (by rw [q]; decide)), if_neg (c := w = 1) (fun q => h (by rw [q]; decide))]
  split <;> rfl
theorem i_le {x : Int32} {m : Nat} (hm : m < 2 ^ 31) (h1 : ¬ x < 0) (h2 : x ≤ nI m) : ∃ j, j ≤ m ∧ x = nI j := by
  obtain ⟨j, hj, rfl⟩ := nI_of h1
  exact ⟨j, (nI_leI hj hm).mp h2, rfl⟩
theorem i_m1 {c : Int32} (h1 : ¬ c < -1) (h2 : c ≤ 29) : c = -1 ∨ (0 ≤ c ∧ c < 30) := by
  rw [Int32.lt_iff_toInt_lt] at h1
  rw [Int32.le_iff_toInt_le] at h2
  have e1 : (-1 : Int32).toInt = -1 := by decide
  have e2 : (29 : Int32).toInt = 29 := by decide
  have e3 : (0 : Int32).toInt = 0 := by decide
  have e4 : (30 : Int32).toInt = 30 := by decide
  rw [e1] at h1
  rw [e2] at h2
  by_cases h : c.toInt = -1
  · left; exact Int32.toInt_inj.mp (by rw [e1]; exact h)
  · right
    rw [Int32.le_iff_toInt_le, Int32.lt_iff_toInt_lt, e3, e4]
    omega
theorem rL.set1 {f : fI} {d : Int32} {lg : tLog} (h : rL (f, d) lg) {i : Nat} (op y : Int32) : rL (upd (upd f (2 * i) op) (2 * i + 1) y, d) (lg.set i (op, y)) := by
  refine ⟨by rw [List.length_set]; exact h.1, by rw [List.length_set]; exact h.2.1, fun j a b hj => ?_⟩
  show upd (upd f (2 * i) op) (2 * i + 1) y (2 * j) = a ∧ upd (upd f (2 * i) op) (2 * i + 1) y (2 * j + 1) = b
  by_cases hij : i = j
  · subst hij
    have hl : i < lg.length := by
      have := (List.getElem?_eq_some_iff.mp hj).1
      rwa [List.length_set] at this
    rw [List.getElem?_set_self hl] at hj
    cases hj
    exact ⟨by rw [pk_un (by omega), pk_us], pk_us⟩
  · rw [List.getElem?_set_ne hij] at hj
    rw [pk_un (by omega), pk_un (by omega), pk_un (by omega), pk_un (by omega)]
    exact h.2.2 j a b hj
theorem rL.cut {f : fI} {d : Int32} {lg : tLog} (h : rL (f, d) lg) {m : Nat} (hm : m ≤ lg.length) : rL (f, nI m) (lg.take m) := by
  have hl : (lg.take m).length = m := by rw [List.length_take]; omega
  refine ⟨by rw [hl], by rw [hl]; have := h.2.1; omega, fun j a b hj => ?_⟩
  have hjm : j < m := by rw [← hl]; exact (List.getElem?_eq_some_iff.mp hj).1
  rw [List.getElem?_take_of_lt hjm] at hj
  exact h.2.2 j a b hj
section
variable (σ : tSt) (x : Nat → aC) (N : tG) (Q : tQ) (F : tF) (W L T : tW) (V : tM) (P : fI)
theorem q_clique (h : rSt σ N L T V P) : aRet 4 0 0 mX8_clique [.ref 24] (rp x N Q F W L T V P) (rQ (spClique σ) x) := by
  have hh := h
  obtain ⟨h1, h2, h3, h4, h5⟩ := h
  have hn := h1.1
  obtain ⟨g1, nr, ot⟩ := N
  obtain rfl : g1 = nI σ.1 := h2.1
  obtain ⟨cf, sf⟩ := Q
  refine aRet.mono (r_clique x σ.1 nr ot cf sf F W L T V P h2 h1) fun r g hq => ?_
  obtain ⟨rfl, cf', sf', rfl⟩ := hq
  exact rQ.mk rfl hh
theorem q_first (h : rSt σ N L T V P) : aRet 4 0 0 mX8_first [.ref 24] (rp x N Q F W L T V P) (rQ (spFirst σ) x) := by
  have hh := h
  obtain ⟨h1, h2, h3, h4, h5⟩ := h
  have hn := h1.1
  obtain ⟨g1, nr, ot⟩ := N
  obtain rfl : g1 = nI σ.1 := h2.1
  obtain ⟨cf, sf⟩ := Q
  refine aRet.mono (r_first x σ.1 nr ot cf sf F W L T V P h2 h1) fun r g hq => ?_
  obtain ⟨rfl, cf', -, rfl⟩ := hq
  exact rQ.mk rfl hh
theorem q_colour (h : rSt σ N L T V P) (v : Int32) : aRet 3 0 0 mX8_colour [.ref 24, .int v] (rp x N Q F W L T V P) (rQ (spColour v σ) x) := by
  have hh := h
  obtain ⟨h1, h2, h3, h4, h5⟩ := h
  have hn := h1.1
  obtain ⟨g1, nr, ot⟩ := N
  obtain rfl : g1 = nI σ.1 := h2.1
  refine aRet.of (by decide) (Nat.le_of_ble_eq_true rfl) (a_ok2 rfl) ?_
  refine g_aload_n (i := 0) (pc1 := 1) dX8_colour_0 rfl rfl rfl ?_
  refine g_iload_n (i := 1) (pc1 := 2) dX8_colour_1 rfl rfl rfl ?_
  refine g_V1 (M := mX8_isVertex) (pc1 := 5) dX8_colour_2 rfl lkX8_58 tmX8_isVertex rfl (r_isVertex x σ.1 nr ot Q F W L T V P v) (Nat.le_of_ble_eq_true rfl) rfl (Nat.le_of_ble_eq_true rfl) (Nat.le_of_ble_eq_true rfl) ?_
  rintro _ _ ⟨rfl, rfl⟩
  refine g_if_ne (pc1 := 8) (tgt := 10) dX8_colour_5 rfl (by decide) (fun c1 => ?_) (fun c1 => ?_)
  · rw [bI_ne0] at c1
    obtain ⟨u, hu, rfl⟩ := (vtx_iff hn).mp c1
    refine g_aload_n (i := 0) (pc1 := 11) dX8_colour_10 rfl rfl rfl ?_
    refine g_get (pc1 := 14) dX8_colour_11 rfl flX8_54 rfl rfl ?_
    cases hs : σ.2.2.1 with
    | none =>
      rw [hs] at h3
      rw [show V.1 = 0 from h3]
      refine g_if_eq (pc1 := 17) (tgt := 26) dX8_colour_14 rfl (by decide) (fun _ => ?_) (fun hbr9 => absurd rfl hbr9)
      refine g_bipush (v := (-2)) (pc1 := 28) dX8_colour_26 rfl (by decide) ?_
      refine g_iret dX8_colour_28 rfl rfl (Nat.le_of_ble_eq_true rfl) (Nat.le_of_ble_eq_true rfl) ?_
      exact rQ.mk (by unfold spColour; rw [if_pos c1, hs]) hh
    | some q =>
      obtain ⟨b, lg, t⟩ := q
      rw [hs] at h3
      rw [h3.1]
      refine g_if_eq (pc1 := 17) (tgt := 26) dX8_colour_14 rfl (by decide) (fun hbr9 => absurd hbr9 (by decide)) (fun _ => ?_)
      refine g_aload_n (i := 0) (pc1 := 18) dX8_colour_17 rfl rfl rfl ?_
      refine g_get (pc1 := 21) dX8_colour_18 rfl flX8_20 rfl rfl ?_
      refine g_iload_n (i := 1) (pc1 := 22) dX8_colour_21 rfl rfl rfl ?_
      refine g_ialdJ (pc1 := 23) dX8_colour_22 rfl rfl rfl (by omega) (by decide) ?_
      refine g_goto (tgt := 28) dX8_colour_23 (by decide) ?_
      rw [h3.2.1 u hu]
      refine g_iret dX8_colour_28 rfl rfl (Nat.le_of_ble_eq_true rfl) (Nat.le_of_ble_eq_true rfl) ?_
      exact rQ.mk (by unfold spColour; rw [if_pos c1, hs, nI_clamp (by omega)]) hh
  · rw [bI_eq0] at c1
    refine g_iconst (v := (-1)) (pc1 := 9) dX8_colour_8 rfl (by decide) ?_
    refine g_iret dX8_colour_9 rfl rfl (Nat.le_of_ble_eq_true rfl) (Nat.le_of_ble_eq_true rfl) ?_
    exact rQ.mk (by unfold spColour; rw [c1]; rfl) hh
theorem q_lines (h : rSt σ N L T V P) : aRet 3 0 0 mX8_lines [.ref 24] (rp x N Q F W L T V P) (rQ (spLines σ) x) := by
  have hh := h
  obtain ⟨h1, h2, h3, h4, h5⟩ := h
  have hn := h1.1
  obtain ⟨g1, nr, ot⟩ := N
  obtain rfl : g1 = nI σ.1 := h2.1
  refine aRet.of (by decide) (Nat.le_of_ble_eq_true rfl) (a_ok2 rfl) ?_
  refine g_aload_n (i := 0) (pc1 := 1) dX8_lines_0 rfl rfl rfl ?_
  refine g_get (pc1 := 4) dX8_lines_1 rfl flX8_54 rfl rfl ?_
  cases hs : σ.2.2.1 with
  | none =>
    rw [hs] at h3
    rw [show V.1 = 0 from h3]
    refine g_if_eq (pc1 := 7) (tgt := 14) dX8_lines_4 rfl (by decide) (fun _ => ?_) (fun hbr9 => absurd rfl hbr9)
    refine g_bipush (v := (-2)) (pc1 := 16) dX8_lines_14 rfl (by decide) ?_
    refine g_iret dX8_lines_16 rfl rfl (Nat.le_of_ble_eq_true rfl) (Nat.le_of_ble_eq_true rfl) ?_
    exact rQ.mk (by unfold spLines; rw [hs]) hh
  | some q =>
    obtain ⟨b, lg, t⟩ := q
    rw [hs] at h3
    rw [h3.1]
    refine g_if_eq (pc1 := 7) (tgt := 14) dX8_lines_4 rfl (by decide) (fun hbr9 => absurd hbr9 (by decide)) (fun _ => ?_)
    refine g_aload_n (i := 0) (pc1 := 8) dX8_lines_7 rfl rfl rfl ?_
    refine g_get (pc1 := 11) dX8_lines_8 rfl flX8_155 rfl rfl ?_
    rw [h3.2.2.2.2.1]
    refine g_goto (tgt := 16) dX8_lines_11 (by decide) ?_
    refine g_iret dX8_lines_16 rfl rfl (Nat.le_of_ble_eq_true rfl) (Nat.le_of_ble_eq_true rfl) ?_
    exact rQ.mk (by unfold spLines; rw [hs]) hh
theorem q_line (h : rSt σ N L T V P) (i w : Int32) : aRet 3 0 0 mX8_line [.ref 24, .int i, .int w] (rp x N Q F W L T V P) (rQ (spLine i w σ) x) := by
  have hh := h
  obtain ⟨h1, h2, h3, h4, h5⟩ := h
  have hn := h1.1
  obtain ⟨g1, nr, ot⟩ := N
  obtain rfl : g1 = nI σ.1 := h2.1
  refine aRet.of (by decide) (Nat.le_of_ble_eq_true rfl) (a_ok2 rfl) ?_
  refine g_aload_n (i := 0) (pc1 := 1) dX8_line_0 rfl rfl rfl ?_
  refine g_get (pc1 := 4) dX8_line_1 rfl flX8_54 rfl rfl ?_
  cases hs : σ.2.2.1 with
  | none =>
    rw [hs] at h3
    rw [show V.1 = 0 from h3]
    refine g_if_ne (pc1 := 7) (tgt := 10) dX8_line_4 rfl (by decide) (fun hbr9 => absurd hbr9 (fun q => q rfl)) (fun _ => ?_)
    refine g_bipush (v := (-2)) (pc1 := 9) dX8_line_7 rfl (by decide) ?_
    refine g_iret dX8_line_9 rfl rfl (Nat.le_of_ble_eq_true rfl) (Nat.le_of_ble_eq_true rfl) ?_
    exact rQ.mk (by unfold spLine; rw [hs]) hh
  | some q =>
    obtain ⟨b, lg, t⟩ := q
    rw [hs] at h3
    have hW := h3.2.2.2.2
    rw [h3.1]
    refine g_if_ne (pc1 := 7) (tgt := 10) dX8_line_4 rfl (by decide) (fun _ => ?_) (fun hbr9 => absurd hbr9 (by decide))
    refine g_iload_n (i := 1) (pc1 := 11) dX8_line_10 rfl rfl rfl ?_
    refine g_if_lt (pc1 := 14) (tgt := 31) dX8_line_11 rfl (by decide) (fun c1 => ?_) (fun c1 => ?_)
    · refine g_iconst (v := (-1)) (pc1 := 32) dX8_line_31 rfl (by decide) ?_
      refine g_iret dX8_line_32 rfl rfl (Nat.le_of_ble_eq_true rfl) (Nat.le_of_ble_eq_true rfl) ?_
      exact rQ.mk (by unfold spLine; rw [hs]; show (prt lg _ _, σ) = _; rw [prt_o (fun q => absurd c1 (Int32.not_lt.mpr q.1))]) hh
    · refine g_iload_n (i := 1) (pc1 := 15) dX8_line_14 rfl rfl rfl ?_
      refine g_aload_n (i := 0) (pc1 := 16) dX8_line_15 rfl rfl rfl ?_
      refine g_get (pc1 := 19) dX8_line_16 rfl flX8_155 rfl rfl ?_
      rw [hW.1]
      refine g_icmp_ge (pc1 := 22) (tgt := 31) dX8_line_19 rfl (by decide) (fun c2 => ?_) (fun c2 => ?_)
      · refine g_iconst (v := (-1)) (pc1 := 32) dX8_line_31 rfl (by decide) ?_
        refine g_iret dX8_line_32 rfl rfl (Nat.le_of_ble_eq_true rfl) (Nat.le_of_ble_eq_true rfl) ?_
        exact rQ.mk (by unfold spLine; rw [hs]; show (prt lg _ _, σ) = _; rw [prt_o (fun q => absurd q.2 (Int32.not_lt.mpr c2))]) hh
      · obtain ⟨j, hj, rfl⟩ := (hol_iff (m := lg.length) (by have := hW.2.1; omega)).mp ⟨Int32.not_lt.mp c1, Int32.not_le.mp c2⟩
        have hl := hW.2.1
        refine g_iload_n (i := 2) (pc1 := 23) dX8_line_22 rfl rfl rfl ?_
        refine g_if_lt (pc1 := 26) (tgt := 31) dX8_line_23 rfl (by decide) (fun c3 => ?_) (fun c3 => ?_)
        · refine g_iconst (v := (-1)) (pc1 := 32) dX8_line_31 rfl (by decide) ?_
          refine g_iret dX8_line_32 rfl rfl (Nat.le_of_ble_eq_true rfl) (Nat.le_of_ble_eq_true rfl) ?_
          exact rQ.mk (by unfold spLine; rw [hs]; show (prt lg _ _, σ) = _; rw [prt_w (fun q => absurd c3 (Int32.not_lt.mpr q.1))]) hh
        · refine g_iload_n (i := 2) (pc1 := 27) dX8_line_26 rfl rfl rfl ?_
          refine g_iconst (v := 1) (pc1 := 28) dX8_line_27 rfl (by decide) ?_
          refine g_icmp_le (pc1 := 31) (tgt := 33) dX8_line_28 rfl (by decide) (fun c4 => ?_) (fun c4 => ?_)
          · obtain ⟨e, he, rfl⟩ := i_le (m := 1) (by decide) c3 c4
            refine g_aload_n (i := 0) (pc1 := 34) dX8_line_33 rfl rfl rfl ?_
            refine g_get (pc1 := 37) dX8_line_34 rfl flX8_38 rfl rfl ?_
            refine g_iconst (v := 2) (pc1 := 38) dX8_line_37 rfl (by decide) ?_
            refine g_iload_n (i := 1) (pc1 := 39) dX8_line_38 rfl rfl rfl ?_
            refine g_imul (pc1 := 40) dX8_line_39 rfl ?_
            refine g_iload_n (i := 2) (pc1 := 41) dX8_line_40 rfl rfl rfl ?_
            refine g_iadd (pc1 := 42) dX8_line_41 rfl ?_
            refine g_ialdJ (pc1 := 43) dX8_line_42 rfl rfl (show (2 : Int32) * nI j + nI e = nI (2 * j + e) by rw [ix2, nI_add]) (by omega) (by decide) ?_
            refine g_iret dX8_line_43 rfl rfl (Nat.le_of_ble_eq_true rfl) (Nat.le_of_ble_eq_true rfl) ?_
            have hp := prt_0 hW hj
            have he2 : prt lg (nI j) (nI e) = L.1 (2 * j + e) := by
              rcases (show e = 0 ∨ e = 1 by omega) with rfl | rfl
              · exact hp.1
              · exact hp.2
            exact rQ.mk (by unfold spLine; rw [hs]; show (prt lg _ _, σ) = _; rw [he2]) hh
          · refine g_iconst (v := (-1)) (pc1 := 32) dX8_line_31 rfl (by decide) ?_
            refine g_iret dX8_line_32 rfl rfl (Nat.le_of_ble_eq_true rfl) (Nat.le_of_ble_eq_true rfl) ?_
            exact rQ.mk (by unfold spLine; rw [hs]; show (prt lg _ _, σ) = _; rw [prt_w (fun q => c4 q.2)]) hh
theorem q_told (h : rSt σ N L T V P) (i w : Int32) : aRet 3 0 0 mX8_told [.ref 24, .int i, .int w] (rp x N Q F W L T V P) (rQ (spTold i w σ) x) := by
  have hh := h
  obtain ⟨h1, h2, h3, h4, h5⟩ := h
  have hn := h1.1
  obtain ⟨g1, nr, ot⟩ := N
  obtain rfl : g1 = nI σ.1 := h2.1
  refine aRet.of (by decide) (Nat.le_of_ble_eq_true rfl) (a_ok2 rfl) ?_
  refine g_iload_n (i := 1) (pc1 := 1) dX8_told_0 rfl rfl rfl ?_
  refine g_if_lt (pc1 := 4) (tgt := 21) dX8_told_1 rfl (by decide) (fun c1 => ?_) (fun c1 => ?_)
  · refine g_iconst (v := (-1)) (pc1 := 22) dX8_told_21 rfl (by decide) ?_
    refine g_iret dX8_told_22 rfl rfl (Nat.le_of_ble_eq_true rfl) (Nat.le_of_ble_eq_true rfl) ?_
    exact rQ.mk (by unfold spTold; rw [prt_o (fun q => absurd c1 (Int32.not_lt.mpr q.1))]) hh
  · refine g_iload_n (i := 1) (pc1 := 5) dX8_told_4 rfl rfl rfl ?_
    refine g_aload_n (i := 0) (pc1 := 6) dX8_told_5 rfl rfl rfl ?_
    refine g_get (pc1 := 9) dX8_told_6 rfl flX8_158 rfl rfl ?_
    rw [h4.1]
    refine g_icmp_ge (pc1 := 12) (tgt := 21) dX8_told_9 rfl (by decide) (fun c2 => ?_) (fun c2 => ?_)
    · refine g_iconst (v := (-1)) (pc1 := 22) dX8_told_21 rfl (by decide) ?_
      refine g_iret dX8_told_22 rfl rfl (Nat.le_of_ble_eq_true rfl) (Nat.le_of_ble_eq_true rfl) ?_
      exact rQ.mk (by unfold spTold; rw [prt_o (fun q => absurd q.2 (Int32.not_lt.mpr c2))]) hh
    · obtain ⟨j, hj, rfl⟩ := (hol_iff (m := σ.2.2.2.1.length) (by have := h4.2.1; omega)).mp ⟨Int32.not_lt.mp c1, Int32.not_le.mp c2⟩
      have hl := h4.2.1
      refine g_iload_n (i := 2) (pc1 := 13) dX8_told_12 rfl rfl rfl ?_
      refine g_if_lt (pc1 := 16) (tgt := 21) dX8_told_13 rfl (by decide) (fun c3 => ?_) (fun c3 => ?_)
      · refine g_iconst (v := (-1)) (pc1 := 22) dX8_told_21 rfl (by decide) ?_
        refine g_iret dX8_told_22 rfl rfl (Nat.le_of_ble_eq_true rfl) (Nat.le_of_ble_eq_true rfl) ?_
        exact rQ.mk (by unfold spTold; rw [prt_w (fun q => absurd c3 (Int32.not_lt.mpr q.1))]) hh
      · refine g_iload_n (i := 2) (pc1 := 17) dX8_told_16 rfl rfl rfl ?_
        refine g_iconst (v := 1) (pc1 := 18) dX8_told_17 rfl (by decide) ?_
        refine g_icmp_le (pc1 := 21) (tgt := 23) dX8_told_18 rfl (by decide) (fun c4 => ?_) (fun c4 => ?_)
        · obtain ⟨e, he, rfl⟩ := i_le (m := 1) (by decide) c3 c4
          refine g_aload_n (i := 0) (pc1 := 24) dX8_told_23 rfl rfl rfl ?_
          refine g_get (pc1 := 27) dX8_told_24 rfl flX8_41 rfl rfl ?_
          refine g_iconst (v := 2) (pc1 := 28) dX8_told_27 rfl (by decide) ?_
          refine g_iload_n (i := 1) (pc1 := 29) dX8_told_28 rfl rfl rfl ?_
          refine g_imul (pc1 := 30) dX8_told_29 rfl ?_
          refine g_iload_n (i := 2) (pc1 := 31) dX8_told_30 rfl rfl rfl ?_
          refine g_iadd (pc1 := 32) dX8_told_31 rfl ?_
          refine g_ialdJ (pc1 := 33) dX8_told_32 rfl rfl (show (2 : Int32) * nI j + nI e = nI (2 * j + e) by rw [ix2, nI_add]) (by omega) (by decide) ?_
          refine g_iret dX8_told_33 rfl rfl (Nat.le_of_ble_eq_true rfl) (Nat.le_of_ble_eq_true rfl) ?_
          have hp := prt_0 h4 hj
          have he2 : prt σ.2.2.2.1 (nI j) (nI e) = T.1 (2 * j + e) := by
            rcases (show e = 0 ∨ e = 1 by omega) with rfl | rfl
            · exact hp.1
            · exact hp.2
          exact rQ.mk (by unfold spTold; rw [he2]) hh
        · refine g_iconst (v := (-1)) (pc1 := 22) dX8_told_21 rfl (by decide) ?_
          refine g_iret dX8_told_22 rfl rfl (Nat.le_of_ble_eq_true rfl) (Nat.le_of_ble_eq_true rfl) ?_
          exact rQ.mk (by unfold spTold; rw [prt_w (fun q => c4 q.2)]) hh
theorem q_work (h : rSt σ N L T V P) (w : Int32) : aRet 3 0 0 mX8_work [.ref 24, .int w] (rp x N Q F W L T V P) (rQ (spWork w σ) x) := by
  have hh := h
  obtain ⟨h1, h2, h3, h4, h5⟩ := h
  have hn := h1.1
  obtain ⟨g1, nr, ot⟩ := N
  obtain rfl : g1 = nI σ.1 := h2.1
  refine aRet.of (by decide) (Nat.le_of_ble_eq_true rfl) (a_ok2 rfl) ?_
  refine g_aload_n (i := 0) (pc1 := 1) dX8_work_0 rfl rfl rfl ?_
  refine g_get (pc1 := 4) dX8_work_1 rfl flX8_54 rfl rfl ?_
  cases hs : σ.2.2.1 with
  | none =>
    rw [hs] at h3
    rw [show V.1 = 0 from h3]
    refine g_if_ne (pc1 := 7) (tgt := 10) dX8_work_4 rfl (by decide) (fun hbr9 => absurd hbr9 (fun q => q rfl)) (fun _ => ?_)
    refine g_bipush (v := (-2)) (pc1 := 9) dX8_work_7 rfl (by decide) ?_
    refine g_iret dX8_work_9 rfl rfl (Nat.le_of_ble_eq_true rfl) (Nat.le_of_ble_eq_true rfl) ?_
    exact rQ.mk (by unfold spWork; rw [hs]) hh
  | some q =>
    obtain ⟨b, lg, t⟩ := q
    rw [hs] at h3
    rw [h3.1]
    have hbad : ¬ (0 ≤ w ∧ w ≤ 4) → spWork w σ = (-1, σ) := by
      intro hw
      unfold spWork
      rw [hs]
      show (wkA t w, σ) = _
      unfold wkA
      rw [if_neg (fun q => hw (by rw [q]; decide)), if_neg (fun q => hw (by rw [q]; decide)), if_neg (fun q => hw (by rw [q]; decide)), if_neg (fun q => hw (by rw [q]; decide)), if_neg (fun q => hw (by rw [q]; decide))]
    refine g_if_ne (pc1 := 7) (tgt := 10) dX8_work_4 rfl (by decide) (fun _ => ?_) (fun hbr9 => absurd hbr9 (by decide))
    refine g_iload_n (i := 1) (pc1 := 11) dX8_work_10 rfl rfl rfl ?_
    refine g_if_lt (pc1 := 14) (tgt := 19) dX8_work_11 rfl (by decide) (fun c1 => ?_) (fun c1 => ?_)
    · refine g_iconst (v := (-1)) (pc1 := 20) dX8_work_19 rfl (by decide) ?_
      refine g_goto (tgt := 29) dX8_work_20 (by decide) ?_
      refine g_iret dX8_work_29 rfl rfl (Nat.le_of_ble_eq_true rfl) (Nat.le_of_ble_eq_true rfl) ?_
      exact rQ.mk (hbad (fun q => absurd c1 (Int32.not_lt.mpr q.1))) hh
    · refine g_iload_n (i := 1) (pc1 := 15) dX8_work_14 rfl rfl rfl ?_
      refine g_iconst (v := 4) (pc1 := 16) dX8_work_15 rfl (by decide) ?_
      refine g_icmp_le (pc1 := 19) (tgt := 23) dX8_work_16 rfl (by decide) (fun c2 => ?_) (fun c2 => ?_)
      · obtain ⟨j, hj, rfl⟩ := i_le (m := 4) (by decide) c1 c2
        refine g_aload_n (i := 0) (pc1 := 24) dX8_work_23 rfl rfl rfl ?_
        refine g_get (pc1 := 27) dX8_work_24 rfl flX8_44 rfl rfl ?_
        refine g_iload_n (i := 1) (pc1 := 28) dX8_work_27 rfl rfl rfl ?_
        refine g_ialdJ (pc1 := 29) dX8_work_28 rfl rfl rfl (by omega) (by decide) ?_
        refine g_iret dX8_work_29 rfl rfl (Nat.le_of_ble_eq_true rfl) (Nat.le_of_ble_eq_true rfl) ?_
        have ht := h3.2.2.2.1
        refine rQ.mk (by
          unfold spWork
          rw [hs]
          show (wkA t (nI j), σ) = _
          unfold wkA
          rcases (show j = 0 ∨ j = 1 ∨ j = 2 ∨ j = 3 ∨ j = 4 by omega) with rfl | rfl | rfl | rfl | rfl
          · rw [if_pos (by decide), ht.1]
          · rw [if_neg (by decide), if_pos (by decide), ht.2.1]
          · rw [if_neg (by decide), if_neg (by decide), if_pos (by decide), ht.2.2.1]
          · rw [if_neg (by decide), if_neg (by decide), if_neg (by decide), if_pos (by decide), ht.2.2.2.1]
          · rw [if_neg (by decide), if_neg (by decide), if_neg (by decide), if_neg (by decide), if_pos (by decide), ht.2.2.2.2]) hh
      · refine g_iconst (v := (-1)) (pc1 := 20) dX8_work_19 rfl (by decide) ?_
        refine g_goto (tgt := 29) dX8_work_20 (by decide) ?_
        refine g_iret dX8_work_29 rfl rfl (Nat.le_of_ble_eq_true rfl) (Nat.le_of_ble_eq_true rfl) ?_
        exact rQ.mk (hbad (fun q => c2 q.2)) hh
theorem q_tell (h : rSt σ N L T V P) (op y : Int32) : aRet 3 0 0 mX8_tell [.ref 24, .int op, .int y] (rp x N Q F W L T V P) (rQ (spTell op y σ) x) := by
  have hh := h
  obtain ⟨h1, h2, h3, h4, h5⟩ := h
  have hn := h1.1
  obtain ⟨g1, nr, ot⟩ := N
  obtain rfl : g1 = nI σ.1 := h2.1
  have hl := h4.2.1
  refine aRet.of (by decide) (Nat.le_of_ble_eq_true rfl) (a_ok2 rfl) ?_
  refine g_iload_n (i := 1) (pc1 := 1) dX8_tell_0 rfl rfl rfl ?_
  refine g_iconst (v := 1) (pc1 := 2) dX8_tell_1 rfl (by decide) ?_
  refine g_icmp_lt (pc1 := 5) (tgt := 10) dX8_tell_2 rfl (by decide) (fun c1 => ?_) (fun c1 => ?_)
  · refine g_iconst (v := (-1)) (pc1 := 11) dX8_tell_10 rfl (by decide) ?_
    refine g_iret dX8_tell_11 rfl rfl (Nat.le_of_ble_eq_true rfl) (Nat.le_of_ble_eq_true rfl) ?_
    exact rQ.mk (by unfold spTell; rw [if_neg (by unfold opOk; rw [decide_eq_true_eq]; exact fun q => absurd c1 (Int32.not_lt.mpr q.1))]) hh
  · refine g_iload_n (i := 1) (pc1 := 6) dX8_tell_5 rfl rfl rfl ?_
    refine g_iconst (v := 4) (pc1 := 7) dX8_tell_6 rfl (by decide) ?_
    refine g_icmp_le (pc1 := 10) (tgt := 12) dX8_tell_7 rfl (by decide) (fun c2 => ?_) (fun c2 => ?_)
    · have hop : opOk op = true := decide_eq_true ⟨Int32.not_lt.mp c1, c2⟩
      obtain ⟨tf, tm⟩ := T
      obtain rfl : tm = nI σ.2.2.2.1.length := h4.1
      refine g_aload_n (i := 0) (pc1 := 13) dX8_tell_12 rfl rfl rfl ?_
      refine g_get (pc1 := 16) dX8_tell_13 rfl flX8_158 rfl rfl ?_
      refine g_sipush (v := 3000) (pc1 := 19) dX8_tell_16 rfl (by decide) ?_
      by_cases h6 : σ.2.2.2.1.length = 3000
      · dsimp only
        rw [h6]
        refine g_icmp_ne (pc1 := 22) (tgt := 25) dX8_tell_19 rfl (by decide) (fun hbr9 => absurd hbr9 (fun q => q rfl)) (fun _ => ?_)
        refine g_bipush (v := (-3)) (pc1 := 24) dX8_tell_22 rfl (by decide) ?_
        refine g_iret dX8_tell_24 rfl rfl (Nat.le_of_ble_eq_true rfl) (Nat.le_of_ble_eq_true rfl) ?_
        rw [← h6]
        exact rQ.mk (by unfold spTell; rw [if_pos hop, if_neg (by omega)]) hh
      · refine g_icmp_ne (pc1 := 22) (tgt := 25) dX8_tell_19 rfl (by decide) (fun _ => ?_) (fun hbr9 => absurd hbr9 (fun q => h6 ((nI_eq (a := σ.2.2.2.1.length) (b := 3000) (by omega) (by omega)).mp q)))
        refine g_aload_n (i := 0) (pc1 := 26) dX8_tell_25 rfl rfl rfl ?_
        refine g_get (pc1 := 29) dX8_tell_26 rfl flX8_41 rfl rfl ?_
        refine g_iconst (v := 2) (pc1 := 30) dX8_tell_29 rfl (by decide) ?_
        refine g_aload_n (i := 0) (pc1 := 31) dX8_tell_30 rfl rfl rfl ?_
        refine g_get (pc1 := 34) dX8_tell_31 rfl flX8_158 rfl rfl ?_
        refine g_imul (pc1 := 35) dX8_tell_34 rfl ?_
        refine g_iload_n (i := 1) (pc1 := 36) dX8_tell_35 rfl rfl rfl ?_
        refine g_iastJ (pc1 := 37) dX8_tell_36 rfl rfl (ix2 _) (by omega) (by decide) ?_
        refine g_aload_n (i := 0) (pc1 := 38) dX8_tell_37 rfl rfl rfl ?_
        refine g_get (pc1 := 41) dX8_tell_38 rfl flX8_41 rfl rfl ?_
        refine g_iconst (v := 2) (pc1 := 42) dX8_tell_41 rfl (by decide) ?_
        refine g_aload_n (i := 0) (pc1 := 43) dX8_tell_42 rfl rfl rfl ?_
        refine g_get (pc1 := 46) dX8_tell_43 rfl flX8_158 rfl rfl ?_
        refine g_imul (pc1 := 47) dX8_tell_46 rfl ?_
        refine g_iconst (v := 1) (pc1 := 48) dX8_tell_47 rfl (by decide) ?_
        refine g_iadd (pc1 := 49) dX8_tell_48 rfl ?_
        refine g_iload_n (i := 2) (pc1 := 50) dX8_tell_49 rfl rfl rfl ?_
        refine g_iastJ (pc1 := 51) dX8_tell_50 rfl rfl (ix21 _) (by omega) (by decide) ?_
        refine g_aload_n (i := 0) (pc1 := 52) dX8_tell_51 rfl rfl rfl ?_
        refine g_dup (pc1 := 53) dX8_tell_52 rfl rfl ?_
        refine g_get (pc1 := 56) dX8_tell_53 rfl flX8_158 rfl rfl ?_
        refine g_iconst (v := 1) (pc1 := 57) dX8_tell_56 rfl (by decide) ?_
        refine g_iadd (pc1 := 58) dX8_tell_57 rfl ?_
        refine g_puti (pc1 := 61) dX8_tell_58 rfl flX8_158 rfl (Nat.le_of_ble_eq_true rfl) rfl rfl ?_
        refine g_aload_n (i := 0) (pc1 := 62) dX8_tell_61 rfl rfl rfl ?_
        refine g_get (pc1 := 65) dX8_tell_62 rfl flX8_158 rfl rfl ?_
        refine g_iret dX8_tell_65 rfl rfl (Nat.le_of_ble_eq_true rfl) (Nat.le_of_ble_eq_true rfl) ?_
        refine rQ.mk (σ := (σ.1, σ.2.1, σ.2.2.1, σ.2.2.2.1 ++ [(op, y)], σ.2.2.2.2)) (T := (upd (upd tf (2 * σ.2.2.2.1.length) op) (2 * σ.2.2.2.1.length + 1) y, nI (σ.2.2.2.1.length) + 1)) (by unfold spTell; rw [if_pos hop, if_pos (by omega), ← nI_1]) ⟨h1, h2, h3, ?_, h5⟩
        rw [nI_1]
        exact h4.app (by omega) op y
    · refine g_iconst (v := (-1)) (pc1 := 11) dX8_tell_10 rfl (by decide) ?_
      refine g_iret dX8_tell_11 rfl rfl (Nat.le_of_ble_eq_true rfl) (Nat.le_of_ble_eq_true rfl) ?_
      exact rQ.mk (by unfold spTell; rw [if_neg (by unfold opOk; rw [decide_eq_true_eq]; exact fun q => c2 q.2)]) hh
theorem q_take (h : rSt σ N L T V P) : aRet 3 0 0 mX8_take [.ref 24] (rp x N Q F W L T V P) (rQ (spTake σ) x) := by
  have hh := h
  obtain ⟨h1, h2, h3, h4, h5⟩ := h
  have hn := h1.1
  obtain ⟨g1, nr, ot⟩ := N
  obtain rfl : g1 = nI σ.1 := h2.1
  unfold spTake
  refine aRet.of (by decide) (Nat.le_of_ble_eq_true rfl) (a_ok2 rfl) ?_
  refine g_aload_n (i := 0) (pc1 := 1) dX8_take_0 rfl rfl rfl ?_
  refine g_get (pc1 := 4) dX8_take_1 rfl flX8_54 rfl rfl ?_
  cases hs : σ.2.2.1 with
  | none =>
    rw [hs] at h3
    rw [show V.1 = 0 from h3]
    refine g_if_ne (pc1 := 7) (tgt := 10) dX8_take_4 rfl (by decide) (fun hbr9 => absurd hbr9 (fun q => q rfl)) (fun _ => ?_)
    refine g_bipush (v := (-2)) (pc1 := 9) dX8_take_7 rfl (by decide) ?_
    refine g_iret dX8_take_9 rfl rfl (Nat.le_of_ble_eq_true rfl) (Nat.le_of_ble_eq_true rfl) ?_
    exact rQ.mk rfl hh
  | some q =>
    obtain ⟨b, lg, t⟩ := q
    have h3' := h3
    rw [hs] at h3
    rw [h3.1]
    have hW := h3.2.2.2.2
    have hl := hW.2.1
    obtain ⟨wf, wm⟩ := L
    obtain rfl : wm = nI lg.length := hW.1
    refine g_if_ne (pc1 := 7) (tgt := 10) dX8_take_4 rfl (by decide) (fun _ => ?_) (fun hbr9 => absurd hbr9 (by decide))
    refine g_iconst (v := 0) (pc1 := 11) dX8_take_10 rfl (by decide) ?_
    refine g_istore_n (i := 1) (pc1 := 12) dX8_take_11 rfl rfl (Nat.le_of_ble_eq_true rfl) ?_
    have key : ∀ u : fI, (∀ j, j < 0 → u j = wf j) → aGo (3, 0, 0, mX8_take, none, rQ (nI lg.length, (σ.1, σ.2.1, some (b, lg, t), lg, σ.2.2.2.2)) x) 12 [.ref 24, .int (nI 0)] [] (rp x (nI σ.1, nr, ot) Q F W (wf, nI lg.length) (u, T.2) V P) 0 0 := by
      refine down0 (P := fun i => ∀ u : fI, (∀ j, j < i → u j = wf j) → aGo _ 12 [.ref 24, .int (nI i)] [] (rp x (nI σ.1, nr, ot) Q F W (wf, nI lg.length) (u, T.2) V P) 0 0) (2 * lg.length) ?_ ?_
      · intro u hu
        refine g_iload_n (i := 1) (pc1 := 13) dX8_take_12 rfl rfl rfl ?_
        refine g_iconst (v := 2) (pc1 := 14) dX8_take_13 rfl (by decide) ?_
        refine g_aload_n (i := 0) (pc1 := 15) dX8_take_14 rfl rfl rfl ?_
        refine g_get (pc1 := 18) dX8_take_15 rfl flX8_155 rfl rfl ?_
        refine g_imul (pc1 := 19) dX8_take_18 rfl ?_
        dsimp only
        rw [ix2]
        refine g_icmp_ge (pc1 := 22) (tgt := 40) dX8_take_19 rfl (by decide) (fun _ => ?_) (fun hbr9 => absurd (Int32.le_refl _) hbr9)
        refine g_aload_n (i := 0) (pc1 := 41) dX8_take_40 rfl rfl rfl ?_
        refine g_aload_n (i := 0) (pc1 := 42) dX8_take_41 rfl rfl rfl ?_
        refine g_get (pc1 := 45) dX8_take_42 rfl flX8_155 rfl rfl ?_
        refine g_puti (pc1 := 48) dX8_take_45 rfl flX8_158 rfl (Nat.le_of_ble_eq_true rfl) rfl rfl ?_
        refine g_aload_n (i := 0) (pc1 := 49) dX8_take_48 rfl rfl rfl ?_
        refine g_get (pc1 := 52) dX8_take_49 rfl flX8_158 rfl rfl ?_
        refine g_iret dX8_take_52 rfl rfl (Nat.le_of_ble_eq_true rfl) (Nat.le_of_ble_eq_true rfl) ?_
        exact rQ.mk (T := (u, nI lg.length)) rfl ⟨h1, h2, by rw [← hs]; exact h3', hW.copy hu, h5⟩
      · intro i hi ih u hu
        refine g_iload_n (i := 1) (pc1 := 13) dX8_take_12 rfl rfl rfl ?_
        refine g_iconst (v := 2) (pc1 := 14) dX8_take_13 rfl (by decide) ?_
        refine g_aload_n (i := 0) (pc1 := 15) dX8_take_14 rfl rfl rfl ?_
        refine g_get (pc1 := 18) dX8_take_15 rfl flX8_155 rfl rfl ?_
        refine g_imul (pc1 := 19) dX8_take_18 rfl ?_
        dsimp only
        rw [ix2]
        refine g_icmp_ge (pc1 := 22) (tgt := 40) dX8_take_19 rfl (by decide) (fun hbr9 => absurd hbr9 (fun c => absurd ((nI_leI (a := 2 * lg.length) (b := i) (by omega) (by omega)).mp c) (by omega))) (fun _ => ?_)
        refine g_aload_n (i := 0) (pc1 := 23) dX8_take_22 rfl rfl rfl ?_
        refine g_get (pc1 := 26) dX8_take_23 rfl flX8_41 rfl rfl ?_
        refine g_iload_n (i := 1) (pc1 := 27) dX8_take_26 rfl rfl rfl ?_
        refine g_aload_n (i := 0) (pc1 := 28) dX8_take_27 rfl rfl rfl ?_
        refine g_get (pc1 := 31) dX8_take_28 rfl flX8_38 rfl rfl ?_
        refine g_iload_n (i := 1) (pc1 := 32) dX8_take_31 rfl rfl rfl ?_
        refine g_ialdJ (pc1 := 33) dX8_take_32 rfl rfl rfl (by omega) (by decide) ?_
        refine g_iastJ (pc1 := 34) dX8_take_33 rfl rfl rfl (by omega) (by decide) ?_
        refine g_iinc (pc1 := 37) dX8_take_34 rfl rfl rfl ?_
        refine g_goto (tgt := 12) dX8_take_37 (by decide) ?_
        refine aGo.eq (ih (upd u i (wf i)) (fun v hv => ?_)) ?_ rfl rfl
        · by_cases e : v = i
          · subst e; rw [pk_us]
          · rw [pk_un e]; exact hu v (by omega)
        · show [Value.ref 24, .int (nI i + Int32.ofInt 1)] = _
          rw [show nI i + Int32.ofInt 1 = nI (i + 1) from nI_1 i]
    exact aGo.eq (key T.1 (fun v h => absurd h (Nat.not_lt_zero v))) rfl rfl rfl
theorem q_alter (h : rSt σ N L T V P) (i op y : Int32) : aRet 3 0 0 mX8_alter [.ref 24, .int i, .int op, .int y] (rp x N Q F W L T V P) (rQ (spAlter i op y σ) x) := by
  have hh := h
  obtain ⟨h1, h2, h3, h4, h5⟩ := h
  have hn := h1.1
  obtain ⟨g1, nr, ot⟩ := N
  obtain rfl : g1 = nI σ.1 := h2.1
  have hl := h4.2.1
  refine aRet.of (by decide) (Nat.le_of_ble_eq_true rfl) (a_ok2 rfl) ?_
  refine g_iload_n (i := 1) (pc1 := 1) dX8_alter_0 rfl rfl rfl ?_
  refine g_if_lt (pc1 := 4) (tgt := 22) dX8_alter_1 rfl (by decide) (fun c1 => ?_) (fun c1 => ?_)
  · refine g_iconst (v := (-1)) (pc1 := 23) dX8_alter_22 rfl (by decide) ?_
    refine g_iret dX8_alter_23 rfl rfl (Nat.le_of_ble_eq_true rfl) (Nat.le_of_ble_eq_true rfl) ?_
    exact rQ.mk (by unfold spAlter; rw [if_neg (fun q => absurd c1 (Int32.not_lt.mpr q.1.1))]) hh
  · refine g_iload_n (i := 1) (pc1 := 5) dX8_alter_4 rfl rfl rfl ?_
    refine g_aload_n (i := 0) (pc1 := 6) dX8_alter_5 rfl rfl rfl ?_
    refine g_get (pc1 := 9) dX8_alter_6 rfl flX8_158 rfl rfl ?_
    rw [h4.1]
    refine g_icmp_ge (pc1 := 12) (tgt := 22) dX8_alter_9 rfl (by decide) (fun c2 => ?_) (fun c2 => ?_)
    · refine g_iconst (v := (-1)) (pc1 := 23) dX8_alter_22 rfl (by decide) ?_
      refine g_iret dX8_alter_23 rfl rfl (Nat.le_of_ble_eq_true rfl) (Nat.le_of_ble_eq_true rfl) ?_
      exact rQ.mk (by unfold spAlter; rw [if_neg (fun q => absurd q.1.2 (Int32.not_lt.mpr c2))]) hh
    · have hi : 0 ≤ i ∧ i < nI σ.2.2.2.1.length := ⟨Int32.not_lt.mp c1, Int32.not_le.mp c2⟩
      obtain ⟨j, hj, rfl⟩ := (hol_iff (by omega)).mp hi
      refine g_iload_n (i := 2) (pc1 := 13) dX8_alter_12 rfl rfl rfl ?_
      refine g_iconst (v := 1) (pc1 := 14) dX8_alter_13 rfl (by decide) ?_
      refine g_icmp_lt (pc1 := 17) (tgt := 22) dX8_alter_14 rfl (by decide) (fun c3 => ?_) (fun c3 => ?_)
      · refine g_iconst (v := (-1)) (pc1 := 23) dX8_alter_22 rfl (by decide) ?_
        refine g_iret dX8_alter_23 rfl rfl (Nat.le_of_ble_eq_true rfl) (Nat.le_of_ble_eq_true rfl) ?_
        exact rQ.mk (by unfold spAlter; rw [if_neg (fun q => absurd c3 (Int32.not_lt.mpr (of_decide_eq_true q.2).1))]) hh
      · refine g_iload_n (i := 2) (pc1 := 18) dX8_alter_17 rfl rfl rfl ?_
        refine g_iconst (v := 4) (pc1 := 19) dX8_alter_18 rfl (by decide) ?_
        refine g_icmp_le (pc1 := 22) (tgt := 24) dX8_alter_19 rfl (by decide) (fun c4 => ?_) (fun c4 => ?_)
        · obtain ⟨tf, tm⟩ := T
          refine g_aload_n (i := 0) (pc1 := 25) dX8_alter_24 rfl rfl rfl ?_
          refine g_get (pc1 := 28) dX8_alter_25 rfl flX8_41 rfl rfl ?_
          refine g_iconst (v := 2) (pc1 := 29) dX8_alter_28 rfl (by decide) ?_
          refine g_iload_n (i := 1) (pc1 := 30) dX8_alter_29 rfl rfl rfl ?_
          refine g_imul (pc1 := 31) dX8_alter_30 rfl ?_
          refine g_iload_n (i := 2) (pc1 := 32) dX8_alter_31 rfl rfl rfl ?_
          refine g_iastJ (pc1 := 33) dX8_alter_32 rfl rfl (ix2 _) (by omega) (by decide) ?_
          refine g_aload_n (i := 0) (pc1 := 34) dX8_alter_33 rfl rfl rfl ?_
          refine g_get (pc1 := 37) dX8_alter_34 rfl flX8_41 rfl rfl ?_
          refine g_iconst (v := 2) (pc1 := 38) dX8_alter_37 rfl (by decide) ?_
          refine g_iload_n (i := 1) (pc1 := 39) dX8_alter_38 rfl rfl rfl ?_
          refine g_imul (pc1 := 40) dX8_alter_39 rfl ?_
          refine g_iconst (v := 1) (pc1 := 41) dX8_alter_40 rfl (by decide) ?_
          refine g_iadd (pc1 := 42) dX8_alter_41 rfl ?_
          refine g_iload_n (i := 3) (pc1 := 43) dX8_alter_42 rfl rfl rfl ?_
          refine g_iastJ (pc1 := 44) dX8_alter_43 rfl rfl (ix21 _) (by omega) (by decide) ?_
          refine g_iconst (v := 1) (pc1 := 45) dX8_alter_44 rfl (by decide) ?_
          refine g_iret dX8_alter_45 rfl rfl (Nat.le_of_ble_eq_true rfl) (Nat.le_of_ble_eq_true rfl) ?_
          exact rQ.mk (σ := (σ.1, σ.2.1, σ.2.2.1, σ.2.2.2.1.set j (op, y), σ.2.2.2.2)) (T := (upd (upd tf (2 * j) op) (2 * j + 1) y, tm)) (by unfold spAlter; rw [if_pos ⟨hi, decide_eq_true ⟨Int32.not_lt.mp c3, c4⟩⟩, nI_clamp (by omega)]) ⟨h1, h2, h3, h4.set1 op y, h5⟩
        · refine g_iconst (v := (-1)) (pc1 := 23) dX8_alter_22 rfl (by decide) ?_
          refine g_iret dX8_alter_23 rfl rfl (Nat.le_of_ble_eq_true rfl) (Nat.le_of_ble_eq_true rfl) ?_
          exact rQ.mk (by unfold spAlter; rw [if_neg (fun q => c4 (of_decide_eq_true q.2).2)]) hh
theorem q_cut (h : rSt σ N L T V P) (m : Int32) : aRet 3 0 0 mX8_cut [.ref 24, .int m] (rp x N Q F W L T V P) (rQ (spCut m σ) x) := by
  have hh := h
  obtain ⟨h1, h2, h3, h4, h5⟩ := h
  have hn := h1.1
  obtain ⟨g1, nr, ot⟩ := N
  obtain rfl : g1 = nI σ.1 := h2.1
  have hl := h4.2.1
  refine aRet.of (by decide) (Nat.le_of_ble_eq_true rfl) (a_ok2 rfl) ?_
  refine g_iload_n (i := 1) (pc1 := 1) dX8_cut_0 rfl rfl rfl ?_
  refine g_if_lt (pc1 := 4) (tgt := 12) dX8_cut_1 rfl (by decide) (fun c1 => ?_) (fun c1 => ?_)
  · refine g_iconst (v := (-1)) (pc1 := 13) dX8_cut_12 rfl (by decide) ?_
    refine g_iret dX8_cut_13 rfl rfl (Nat.le_of_ble_eq_true rfl) (Nat.le_of_ble_eq_true rfl) ?_
    exact rQ.mk (by unfold spCut; rw [if_neg (fun q => absurd c1 (Int32.not_lt.mpr q.1))]) hh
  · refine g_iload_n (i := 1) (pc1 := 5) dX8_cut_4 rfl rfl rfl ?_
    refine g_aload_n (i := 0) (pc1 := 6) dX8_cut_5 rfl rfl rfl ?_
    refine g_get (pc1 := 9) dX8_cut_6 rfl flX8_158 rfl rfl ?_
    rw [h4.1]
    refine g_icmp_le (pc1 := 12) (tgt := 14) dX8_cut_9 rfl (by decide) (fun c2 => ?_) (fun c2 => ?_)
    · obtain ⟨j, hj, rfl⟩ := nI_of (x := m) c1
      have hjl : j ≤ σ.2.2.2.1.length := (nI_leI hj (by omega)).mp c2
      obtain ⟨tf, tm⟩ := T
      refine g_aload_n (i := 0) (pc1 := 15) dX8_cut_14 rfl rfl rfl ?_
      refine g_iload_n (i := 1) (pc1 := 16) dX8_cut_15 rfl rfl rfl ?_
      refine g_puti (pc1 := 19) dX8_cut_16 rfl flX8_158 rfl (Nat.le_of_ble_eq_true rfl) rfl rfl ?_
      refine g_iload_n (i := 1) (pc1 := 20) dX8_cut_19 rfl rfl rfl ?_
      refine g_iret dX8_cut_20 rfl rfl (Nat.le_of_ble_eq_true rfl) (Nat.le_of_ble_eq_true rfl) ?_
      exact rQ.mk (σ := (σ.1, σ.2.1, σ.2.2.1, σ.2.2.2.1.take j, σ.2.2.2.2)) (T := (tf, nI j)) (by unfold spCut; rw [if_pos ⟨Int32.not_lt.mp c1, c2⟩, nI_clamp (by omega)]) ⟨h1, h2, h3, h4.cut hjl, h5⟩
    · refine g_iconst (v := (-1)) (pc1 := 13) dX8_cut_12 rfl (by decide) ?_
      refine g_iret dX8_cut_13 rfl rfl (Nat.le_of_ble_eq_true rfl) (Nat.le_of_ble_eq_true rfl) ?_
      exact rQ.mk (by unfold spCut; rw [if_neg (fun q => c2 q.2)]) hh
theorem q_paint (h : rSt σ N L T V P) (v c : Int32) : aRet 3 0 0 mX8_paint [.ref 24, .int v, .int c] (rp x N Q F W L T V P) (rQ (spPaint v c σ) x) := by
  have hh := h
  obtain ⟨h1, h2, h3, h4, h5⟩ := h
  have hn := h1.1
  obtain ⟨g1, nr, ot⟩ := N
  obtain rfl : g1 = nI σ.1 := h2.1
  refine aRet.of (by decide) (Nat.le_of_ble_eq_true rfl) (a_ok2 rfl) ?_
  refine g_iload_n (i := 1) (pc1 := 1) dX8_paint_0 rfl rfl rfl ?_
  refine g_if_lt (pc1 := 4) (tgt := 21) dX8_paint_1 rfl (by decide) (fun c1 => ?_) (fun c1 => ?_)
  · refine g_bipush (v := (-2)) (pc1 := 23) dX8_paint_21 rfl (by decide) ?_
    refine g_iret dX8_paint_23 rfl rfl (Nat.le_of_ble_eq_true rfl) (Nat.le_of_ble_eq_true rfl) ?_
    exact rQ.mk (by unfold spPaint; rw [if_neg (fun q => absurd c1 (Int32.not_lt.mpr q.1.1))]) hh
  · refine g_iload_n (i := 1) (pc1 := 5) dX8_paint_4 rfl rfl rfl ?_
    refine g_bipush (v := 29) (pc1 := 7) dX8_paint_5 rfl (by decide) ?_
    refine g_icmp_gt (pc1 := 10) (tgt := 21) dX8_paint_7 rfl (by decide) (fun c2 => ?_) (fun c2 => ?_)
    · refine g_bipush (v := (-2)) (pc1 := 23) dX8_paint_21 rfl (by decide) ?_
      refine g_iret dX8_paint_23 rfl rfl (Nat.le_of_ble_eq_true rfl) (Nat.le_of_ble_eq_true rfl) ?_
      exact rQ.mk (by unfold spPaint; rw [if_neg (fun q => by
        obtain ⟨j, hj, rfl⟩ := (hol_iff (m := 30) (by omega)).mp q.1
        have := (nI_ltI (a := 29) (b := j) (by omega) (by omega)).mp c2
        omega)]) hh
    · obtain ⟨j, hj, rfl⟩ := i_le (m := 29) (by decide) c1 (Int32.not_lt.mp c2)
      have hv : 0 ≤ nI j ∧ nI j < 30 := (hol_iff (m := 30) (by omega)).mpr ⟨j, by omega, rfl⟩
      refine g_iload_n (i := 2) (pc1 := 11) dX8_paint_10 rfl rfl rfl ?_
      refine g_iconst (v := (-1)) (pc1 := 12) dX8_paint_11 rfl (by decide) ?_
      refine g_icmp_lt (pc1 := 15) (tgt := 21) dX8_paint_12 rfl (by decide) (fun c3 => ?_) (fun c3 => ?_)
      · refine g_bipush (v := (-2)) (pc1 := 23) dX8_paint_21 rfl (by decide) ?_
        refine g_iret dX8_paint_23 rfl rfl (Nat.le_of_ble_eq_true rfl) (Nat.le_of_ble_eq_true rfl) ?_
        exact rQ.mk (by unfold spPaint; rw [if_neg (fun q => by
          rcases q.2 with e | e
          · rw [e] at c3; exact absurd c3 (by decide)
          · unfold colOk at e
            rw [decide_eq_true_eq] at e
            exact absurd (Int32.lt_of_lt_of_le c3 (Int32.le_trans (by decide) e.1)) Int32.lt_irrefl)]) hh
      · refine g_iload_n (i := 2) (pc1 := 16) dX8_paint_15 rfl rfl rfl ?_
        refine g_bipush (v := 29) (pc1 := 18) dX8_paint_16 rfl (by decide) ?_
        refine g_icmp_le (pc1 := 21) (tgt := 24) dX8_paint_18 rfl (by decide) (fun c4 => ?_) (fun c4 => ?_)
        · have hc : c = -1 ∨ colOk c = true := by
            rcases i_m1 c3 c4 with e | e
            · exact Or.inl e
            · exact Or.inr (decide_eq_true e)
          have hdo : c = enO (deO c) ∧ ∀ d, deO c = some d → d < 30 := by
            rcases hc with rfl | hc
            · exact ⟨rfl, fun d q => by cases q⟩
            · unfold colOk at hc
              rw [decide_eq_true_eq] at hc
              obtain ⟨d, hd, rfl⟩ := (hol_iff (m := 30) (by omega)).mp hc
              have hne : ¬ nI d = -1 := fun q => absurd (show nI d ≤ -1 by rw [q]; exact Int32.le_refl _) (nI_m1_lt (by omega))
              have he : deO (nI d) = some d := by unfold deO; rw [if_neg hne, nI_clamp (by omega)]
              rw [he]
              exact ⟨rfl, fun d' q => by cases q; exact hd⟩
          obtain ⟨d1, d2⟩ := hdo
          refine g_aload_n (i := 0) (pc1 := 25) dX8_paint_24 rfl rfl rfl ?_
          refine g_get (pc1 := 28) dX8_paint_25 rfl flX8_23 rfl rfl ?_
          refine g_iload_n (i := 1) (pc1 := 29) dX8_paint_28 rfl rfl rfl ?_
          refine g_ialdJ (pc1 := 30) dX8_paint_29 rfl rfl rfl (by omega) (by decide) ?_
          refine g_istore_n (i := 3) (pc1 := 31) dX8_paint_30 rfl rfl (Nat.le_of_ble_eq_true rfl) ?_
          refine g_aload_n (i := 0) (pc1 := 32) dX8_paint_31 rfl rfl rfl ?_
          refine g_get (pc1 := 35) dX8_paint_32 rfl flX8_23 rfl rfl ?_
          refine g_iload_n (i := 1) (pc1 := 36) dX8_paint_35 rfl rfl rfl ?_
          refine g_iload_n (i := 2) (pc1 := 37) dX8_paint_36 rfl rfl rfl ?_
          refine g_iastJ (pc1 := 38) dX8_paint_37 rfl rfl rfl (by omega) (by decide) ?_
          refine g_iload_n (i := 3) (pc1 := 39) dX8_paint_38 rfl rfl rfl ?_
          refine g_iret dX8_paint_39 rfl rfl (Nat.le_of_ble_eq_true rfl) (Nat.le_of_ble_eq_true rfl) ?_
          rw [(h5 j (by omega)).1]
          refine rQ.mk (σ := (σ.1, σ.2.1, σ.2.2.1, σ.2.2.2.1, fun w => if w = j then deO c else σ.2.2.2.2 w)) (P := upd P j c) (by unfold spPaint; rw [if_pos ⟨hv, hc⟩, nI_clamp (by omega)]) ⟨h1, h2, h3, h4, fun w hw => ?_⟩
          show upd P j c w = enO (if w = j then deO c else σ.2.2.2.2 w) ∧ _
          by_cases hwj : w = j
          · subst hwj
            rw [pk_us, if_pos rfl]
            exact ⟨d1, fun d q => d2 d (by simpa using q)⟩
          · rw [pk_un hwj, if_neg hwj]
            exact ⟨(h5 w hw).1, fun d q => (h5 w hw).2 d (by simpa [hwj] using q)⟩
        · refine g_bipush (v := (-2)) (pc1 := 23) dX8_paint_21 rfl (by decide) ?_
          refine g_iret dX8_paint_23 rfl rfl (Nat.le_of_ble_eq_true rfl) (Nat.le_of_ble_eq_true rfl) ?_
          exact rQ.mk (by unfold spPaint; rw [if_neg (fun q => by
            rcases q.2 with e | e
            · rw [e] at c4; exact absurd (by decide) c4
            · unfold colOk at e
              rw [decide_eq_true_eq] at e
              obtain ⟨d, hd, rfl⟩ := (hol_iff (m := 30) (by omega)).mp e
              exact c4 ((nI_leI (a := d) (b := 29) (by omega) (by omega)).mpr (by omega)))]) hh
theorem q_copy (h : rSt σ N L T V P) : aRet 3 0 0 mX8_copy [.ref 24] (rp x N Q F W L T V P) (rQ (spCopy σ) x) := by
  have hh := h
  obtain ⟨h1, h2, h3, h4, h5⟩ := h
  have hn := h1.1
  obtain ⟨g1, nr, ot⟩ := N
  obtain rfl : g1 = nI σ.1 := h2.1
  unfold spCopy
  refine aRet.of (by decide) (Nat.le_of_ble_eq_true rfl) (a_ok2 rfl) ?_
  refine g_aload_n (i := 0) (pc1 := 1) dX8_copy_0 rfl rfl rfl ?_
  refine g_get (pc1 := 4) dX8_copy_1 rfl flX8_54 rfl rfl ?_
  cases hs : σ.2.2.1 with
  | none =>
    rw [hs] at h3
    rw [show V.1 = 0 from h3]
    refine g_if_ne (pc1 := 7) (tgt := 10) dX8_copy_4 rfl (by decide) (fun hbr9 => absurd hbr9 (fun q => q rfl)) (fun _ => ?_)
    refine g_bipush (v := (-2)) (pc1 := 9) dX8_copy_7 rfl (by decide) ?_
    refine g_iret dX8_copy_9 rfl rfl (Nat.le_of_ble_eq_true rfl) (Nat.le_of_ble_eq_true rfl) ?_
    exact rQ.mk rfl hh
  | some q =>
    obtain ⟨b, lg, t⟩ := q
    have h3' := h3
    rw [hs] at h3
    rw [h3.1]
    refine g_if_ne (pc1 := 7) (tgt := 10) dX8_copy_4 rfl (by decide) (fun _ => ?_) (fun hbr9 => absurd hbr9 (by decide))
    refine g_iconst (v := 0) (pc1 := 11) dX8_copy_10 rfl (by decide) ?_
    refine g_istore_n (i := 1) (pc1 := 12) dX8_copy_11 rfl rfl (Nat.le_of_ble_eq_true rfl) ?_
    have key : ∀ u : fI, (∀ w, w < 30 → u w = if w < 0 then V.2.1 w else P w) → aGo (3, 0, 0, mX8_copy, none, rQ (nI σ.1, (σ.1, σ.2.1, some (b, lg, t), σ.2.2.2.1, fun w => if w < σ.1 then b w else σ.2.2.2.2 w)) x) 12 [.ref 24, .int (nI 0)] [] (rp x (nI σ.1, nr, ot) Q F W L T V u) 0 0 := by
      refine down0 (P := fun i => ∀ u : fI, (∀ w, w < 30 → u w = if w < i then V.2.1 w else P w) → aGo _ 12 [.ref 24, .int (nI i)] [] (rp x (nI σ.1, nr, ot) Q F W L T V u) 0 0) σ.1 ?_ ?_
      · intro u hu
        refine g_iload_n (i := 1) (pc1 := 13) dX8_copy_12 rfl rfl rfl ?_
        refine g_aload_n (i := 0) (pc1 := 14) dX8_copy_13 rfl rfl rfl ?_
        refine g_get (pc1 := 17) dX8_copy_14 rfl flX8_50 rfl rfl ?_
        refine g_icmp_ge (pc1 := 20) (tgt := 38) dX8_copy_17 rfl (by decide) (fun _ => ?_) (fun hbr9 => absurd (Int32.le_refl _) hbr9)
        refine g_aload_n (i := 0) (pc1 := 39) dX8_copy_38 rfl rfl rfl ?_
        refine g_get (pc1 := 42) dX8_copy_39 rfl flX8_50 rfl rfl ?_
        refine g_iret dX8_copy_42 rfl rfl (Nat.le_of_ble_eq_true rfl) (Nat.le_of_ble_eq_true rfl) ?_
        refine rQ.mk rfl ⟨h1, h2, by rw [← hs]; exact h3', h4, fun w hw => ?_⟩
        rw [hu w hw]
        show _ = enO (if w < σ.1 then b w else σ.2.2.2.2 w) ∧ _
        by_cases hwn : w < σ.1
        · rw [if_pos hwn, if_pos hwn]
          exact ⟨h3.2.1 w hwn, fun d q => h3.2.2.1 w d (by simpa [hwn] using q)⟩
        · rw [if_neg hwn, if_neg hwn]
          exact ⟨(h5 w hw).1, fun d q => (h5 w hw).2 d (by simpa [hwn] using q)⟩
      · intro i hi ih u hu
        refine g_iload_n (i := 1) (pc1 := 13) dX8_copy_12 rfl rfl rfl ?_
        refine g_aload_n (i := 0) (pc1 := 14) dX8_copy_13 rfl rfl rfl ?_
        refine g_get (pc1 := 17) dX8_copy_14 rfl flX8_50 rfl rfl ?_
        refine g_icmp_ge (pc1 := 20) (tgt := 38) dX8_copy_17 rfl (by decide) (fun hbr9 => absurd hbr9 (fun c => absurd ((nI_leI (a := σ.1) (b := i) (by omega) (by omega)).mp c) (by omega))) (fun _ => ?_)
        refine g_aload_n (i := 0) (pc1 := 21) dX8_copy_20 rfl rfl rfl ?_
        refine g_get (pc1 := 24) dX8_copy_21 rfl flX8_23 rfl rfl ?_
        refine g_iload_n (i := 1) (pc1 := 25) dX8_copy_24 rfl rfl rfl ?_
        refine g_aload_n (i := 0) (pc1 := 26) dX8_copy_25 rfl rfl rfl ?_
        refine g_get (pc1 := 29) dX8_copy_26 rfl flX8_20 rfl rfl ?_
        refine g_iload_n (i := 1) (pc1 := 30) dX8_copy_29 rfl rfl rfl ?_
        refine g_ialdJ (pc1 := 31) dX8_copy_30 rfl rfl rfl (by omega) (by decide) ?_
        refine g_iastJ (pc1 := 32) dX8_copy_31 rfl rfl rfl (by omega) (by decide) ?_
        refine g_iinc (pc1 := 35) dX8_copy_32 rfl rfl rfl ?_
        refine g_goto (tgt := 12) dX8_copy_35 (by decide) ?_
        refine aGo.eq (ih (upd u i (V.2.1 i)) (fun v hv => ?_)) ?_ rfl rfl
        · by_cases e : v = i
          · subst e; rw [pk_us, if_pos (by omega)]
          · rw [pk_un e, hu v hv]
            by_cases e2 : v < i
            · rw [if_pos e2, if_pos (by omega)]
            · rw [if_neg e2, if_neg (by omega)]
        · show [Value.ref 24, .int (nI i + Int32.ofInt 1)] = _
          rw [show nI i + Int32.ofInt 1 = nI (i + 1) from nI_1 i]
    exact aGo.eq (key P (fun v _ => by rw [if_neg (Nat.not_lt_zero v)])) rfl rfl rfl
end
