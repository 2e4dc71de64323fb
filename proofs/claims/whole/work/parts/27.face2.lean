/-! ===== the calls of the class, going on ===== -/
def spSolve (σ : tSt) : Int32 × tSt := if (svR σ.1 σ.2.1).1 = 2 then (-3, (σ.1, σ.2.1, none, σ.2.2.2)) else (nI (svR σ.1 σ.2.1).2.1.2, (σ.1, σ.2.1, some ((svR σ.1 σ.2.1).2.1.1, svL σ.1 σ.2.1, (svR σ.1 σ.2.1).2.2.2), σ.2.2.2))
def spColour (v : Int32) (σ : tSt) : Int32 × tSt := (if vtx σ.1 v = true then (match σ.2.2.1 with
  | none => -2
  | some q => enO (q.1 v.toNatClampNeg)) else -1, σ)
def spClique (σ : tSt) : Int32 × tSt := (bS (clqR σ.2.1 σ.1), σ)
def spFirst (σ : tSt) : Int32 × tSt := (nI (fgS σ.1 σ.2.1 σ.1).2, σ)
def spLines (σ : tSt) : Int32 × tSt := ((match σ.2.2.1 with
  | none => -2
  | some q => nI q.2.1.length), σ)
def spLine (i w : Int32) (σ : tSt) : Int32 × tSt := ((match σ.2.2.1 with
  | none => -2
  | some q => prt q.2.1 i w), σ)
def wkA (t : tT) (w : Int32) : Int32 := if w = 0 then nI t.1 else if w = 1 then nI t.2.1 else if w = 2 then nI t.2.2.1 else if w = 3 then nI t.2.2.2.1 else if w = 4 then nI t.2.2.2.2 else -1
def spWork (w : Int32) (σ : tSt) : Int32 × tSt := ((match σ.2.2.1 with
  | none => -2
  | some q => wkA q.2.2 w), σ)
def spSearch (k : Int32) (σ : tSt) : Int32 × tSt := if 0 ≤ k ∧ k ≤ 30 then (if (srR σ.1 σ.2.1 k.toNatClampNeg).1 = 2 then (-3, σ) else (nI (srR σ.1 σ.2.1 k.toNatClampNeg).1, (σ.1, σ.2.1, σ.2.2.1, (srR σ.1 σ.2.1 k.toNatClampNeg).2.1, σ.2.2.2.2))) else (-1, σ)
def opOk (op : Int32) : Bool := decide (1 ≤ op ∧ op ≤ 4)
def spTell (op x : Int32) (σ : tSt) : Int32 × tSt := if opOk op = true then (if σ.2.2.2.1.length < 3000 then (nI (σ.2.2.2.1.length + 1), (σ.1, σ.2.1, σ.2.2.1, σ.2.2.2.1 ++ [(op, x)], σ.2.2.2.2)) else (-3, σ)) else (-1, σ)
def spTake (σ : tSt) : Int32 × tSt := match σ.2.2.1 with
  | none => (-2, σ)
  | some q => (nI q.2.1.length, (σ.1, σ.2.1, σ.2.2.1, q.2.1, σ.2.2.2.2))
def spAlter (i op x : Int32) (σ : tSt) : Int32 × tSt := if (0 ≤ i ∧ i < nI σ.2.2.2.1.length) ∧ opOk op = true then (1, (σ.1, σ.2.1, σ.2.2.1, σ.2.2.2.1.set i.toNatClampNeg (op, x), σ.2.2.2.2)) else (-1, σ)
def spCut (m : Int32) (σ : tSt) : Int32 × tSt := if 0 ≤ m ∧ m ≤ nI σ.2.2.2.1.length then (m, (σ.1, σ.2.1, σ.2.2.1, σ.2.2.2.1.take m.toNatClampNeg, σ.2.2.2.2)) else (-1, σ)
def spTold (i w : Int32) (σ : tSt) : Int32 × tSt := (prt σ.2.2.2.1 i w, σ)
def spCheck (k : Int32) (σ : tSt) : Int32 × tSt := (if 0 ≤ k ∧ k ≤ 30 then ckA σ.1 σ.2.1 k.toNatClampNeg σ.2.2.2.1 else -2, σ)
def colOk (c : Int32) : Bool := decide (0 ≤ c ∧ c < 30)
def deO (c : Int32) : Option Nat := if c = -1 then none else some c.toNatClampNeg
def spPaint (v c : Int32) (σ : tSt) : Int32 × tSt := if (0 ≤ v ∧ v < 30) ∧ (c = -1 ∨ colOk c = true) then (enO (σ.2.2.2.2 v.toNatClampNeg), (σ.1, σ.2.1, σ.2.2.1, σ.2.2.2.1, fun w => if w = v.toNatClampNeg then deO c else σ.2.2.2.2 w)) else (-2, σ)
def spCopy (σ : tSt) : Int32 × tSt := match σ.2.2.1 with
  | none => (-2, σ)
  | some q => (nI σ.1, (σ.1, σ.2.1, σ.2.2.1, σ.2.2.2.1, fun w => if w < σ.1 then q.1 w else σ.2.2.2.2 w))
def spClashes (σ : tSt) : Int32 × tSt := (nI (clT σ.1 σ.2.1 σ.2.2.2.2), σ)
def spUsed (σ : tSt) : Int32 × tSt := (nI (cnt (amgS σ.1 σ.2.2.2.2 (fun i => decide (i < σ.1))) 32), σ)
def spChain (v c : Int32) (σ : tSt) : Int32 × tSt := if vtx σ.1 v = true ∧ colOk c = true then (match σ.2.2.2.2 v.toNatClampNeg with
  | none => (-1, σ)
  | some c0 => if c0 = c.toNatClampNeg then (-1, σ) else (nI (cnt (chS2 σ.1 σ.2.1 σ.2.2.2.2 v.toNatClampNeg c0 c.toNatClampNeg) 32), (σ.1, σ.2.1, σ.2.2.1, σ.2.2.2.1, chP σ.1 σ.2.1 σ.2.2.2.2 v.toNatClampNeg c0 c.toNatClampNeg))) else (-1, σ)
def spSat (v : Int32) (σ : tSt) : Int32 × tSt := (if vtx σ.1 v = true then nI (cnt (amgS σ.1 σ.2.2.2.2 (σ.2.1 v.toNatClampNeg)) 32) else -1, σ)
theorem lC.set1 {s : Int32} {f g : fI} {lg : tLog} (h : lC (s, f, g) lg) {i : Nat} (op x : Int32) : lC (s, upd f i op, upd g i x) (lg.set i (op, x)) := by
  refine ⟨by rw [List.length_set]; exact h.1, by rw [List.length_set]; exact h.2.1, fun j a b hj => ?_⟩
  show upd f i op j = a ∧ upd g i x j = b
  by_cases hij : i = j
  · subst hij
    have hl : i < lg.length := by
      have := (List.getElem?_eq_some_iff.mp hj).1
      rwa [List.length_set] at this
    rw [List.getElem?_set_self hl] at hj
    cases hj
    exact ⟨pk_us, pk_us⟩
  · rw [List.getElem?_set_ne hij] at hj
    rw [pk_un (Ne.symm hij), pk_un (Ne.symm hij)]
    exact h.2.2 j a b hj
theorem lC.cut {s : Int32} {f g : fI} {lg : tLog} (h : lC (s, f, g) lg) {m : Nat} (hm : m ≤ lg.length) : lC (nI m, f, g) (lg.take m) := by
  have hl : (lg.take m).length = m := by rw [List.length_take]; omega
  refine ⟨by rw [hl], by rw [hl]; have := h.2.1; omega, fun j a b hj => ?_⟩
  have hjm : j < m := by rw [← hl]; exact (List.getElem?_eq_some_iff.mp hj).1
  rw [List.getElem?_take_of_lt hjm] at hj
  exact h.2.2 j a b hj
section
variable (σ : tSt) (G : tG) (K : tK) (S : tS) (L1 : tL) (U : tU) (L2 L3 : tL) (C : Int32 × Int32) (P : fI) (r : List aC)
theorem c_isOp {h : List aC} (op : Int32) : aRet 0 0 0 mX7_isOp [.int op] h (fun v g => v = some (.int (bI (opOk op))) ∧ g = h) := by
  refine aRet.of (by decide) (Nat.le_of_ble_eq_true rfl) (a_ok2 rfl) ?_
  refine g_iload_n (i := 0) (pc1 := 1) dX7_isOp_0 rfl rfl rfl ?_
  refine g_iconst (v := 1) (pc1 := 2) dX7_isOp_1 rfl (by decide) ?_
  refine g_icmp_lt (pc1 := 5) (tgt := 14) dX7_isOp_2 rfl (by decide) (fun c1 => ?_) (fun c1 => ?_)
  · refine g_iconst (v := 0) (pc1 := 15) dX7_isOp_14 rfl (by decide) ?_
    refine g_iret dX7_isOp_15 rfl (bI_nar false) (Nat.le_of_ble_eq_true rfl) (Nat.le_of_ble_eq_true rfl) ?_
    exact ⟨by unfold opOk; rw [decide_eq_false (fun q => absurd c1 (Int32.not_lt.mpr q.1))]; rfl, rfl⟩
  · refine g_iload_n (i := 0) (pc1 := 6) dX7_isOp_5 rfl rfl rfl ?_
    refine g_iconst (v := 4) (pc1 := 7) dX7_isOp_6 rfl (by decide) ?_
    refine g_icmp_gt (pc1 := 10) (tgt := 14) dX7_isOp_7 rfl (by decide) (fun c2 => ?_) (fun c2 => ?_)
    · refine g_iconst (v := 0) (pc1 := 15) dX7_isOp_14 rfl (by decide) ?_
      refine g_iret dX7_isOp_15 rfl (bI_nar false) (Nat.le_of_ble_eq_true rfl) (Nat.le_of_ble_eq_true rfl) ?_
      exact ⟨by unfold opOk; rw [decide_eq_false (fun q => absurd c2 (Int32.not_lt.mpr q.2))]; rfl, rfl⟩
    · refine g_iconst (v := 1) (pc1 := 11) dX7_isOp_10 rfl (by decide) ?_
      refine g_goto (tgt := 15) dX7_isOp_11 (by decide) ?_
      refine g_iret dX7_isOp_15 rfl (bI_nar true) (Nat.le_of_ble_eq_true rfl) (Nat.le_of_ble_eq_true rfl) ?_
      exact ⟨by unfold opOk; rw [decide_eq_true ⟨Int32.not_lt.mp c1, Int32.not_lt.mp c2⟩]; rfl, rfl⟩
theorem c_isColour {h : List aC} (c : Int32) : aRet 0 0 0 mX7_isColour [.int c] h (fun v g => v = some (.int (bI (colOk c))) ∧ g = h) := by
  refine aRet.of (by decide) (Nat.le_of_ble_eq_true rfl) (a_ok2 rfl) ?_
  refine g_iload_n (i := 0) (pc1 := 1) dX7_isColour_0 rfl rfl rfl ?_
  refine g_if_lt (pc1 := 4) (tgt := 14) dX7_isColour_1 rfl (by decide) (fun c1 => ?_) (fun c1 => ?_)
  · refine g_iconst (v := 0) (pc1 := 15) dX7_isColour_14 rfl (by decide) ?_
    refine g_iret dX7_isColour_15 rfl (bI_nar false) (Nat.le_of_ble_eq_true rfl) (Nat.le_of_ble_eq_true rfl) ?_
    exact ⟨by unfold colOk; rw [decide_eq_false (fun q => absurd c1 (Int32.not_lt.mpr q.1))]; rfl, rfl⟩
  · refine g_iload_n (i := 0) (pc1 := 5) dX7_isColour_4 rfl rfl rfl ?_
    refine g_bipush (v := 30) (pc1 := 7) dX7_isColour_5 rfl (by decide) ?_
    refine g_icmp_ge (pc1 := 10) (tgt := 14) dX7_isColour_7 rfl (by decide) (fun c2 => ?_) (fun c2 => ?_)
    · refine g_iconst (v := 0) (pc1 := 15) dX7_isColour_14 rfl (by decide) ?_
      refine g_iret dX7_isColour_15 rfl (bI_nar false) (Nat.le_of_ble_eq_true rfl) (Nat.le_of_ble_eq_true rfl) ?_
      exact ⟨by unfold colOk; rw [decide_eq_false (fun q => absurd q.2 (Int32.not_lt.mpr c2))]; rfl, rfl⟩
    · refine g_iconst (v := 1) (pc1 := 11) dX7_isColour_10 rfl (by decide) ?_
      refine g_goto (tgt := 15) dX7_isColour_11 (by decide) ?_
      refine g_iret dX7_isColour_15 rfl (bI_nar true) (Nat.le_of_ble_eq_true rfl) (Nat.le_of_ble_eq_true rfl) ?_
      exact ⟨by unfold colOk; rw [decide_eq_true ⟨Int32.not_lt.mp c1, Int32.not_le.mp c2⟩]; rfl, rfl⟩
theorem f_solve (h : cSt σ G U L2 L3 P) : aRet 101 0 0 mX7_solve [.ref 0] (cp G K S L1 U L2 L3 C P r) (cQ (spSolve σ) r) := by
  obtain ⟨h1, h2, h3, h4, h5⟩ := h
  obtain ⟨g1, nr, tn⟩ := G
  obtain rfl : g1 = nI σ.1 := h2.1
  refine aRet.of (by decide) (Nat.le_of_ble_eq_true rfl) (a_ok2 rfl) ?_
  refine g_aload_n (i := 0) (pc1 := 1) dX7_solve_0 rfl rfl rfl ?_
  refine g_get (pc1 := 4) dX7_solve_1 rfl flX7_39 rfl rfl ?_
  refine g_V0 (M := mX5_find) (pc1 := 7) dX7_solve_4 rfl lkX7_109 tmX5_find rfl (c_find σ.1 nr tn K S L1 U L2 L3 C P r h2 h1) (Nat.le_of_ble_eq_true rfl) rfl (Nat.le_of_ble_eq_true rfl) (Nat.le_of_ble_eq_true rfl) ?_
  rintro _ _ ⟨K', S', L1', b, co, t, (⟨e1, rfl, rfl⟩ | ⟨e1, rfl, L2', e2, e3, e4, rfl⟩)⟩
  · refine g_iret dX7_solve_7 rfl rfl (Nat.le_of_ble_eq_true rfl) (Nat.le_of_ble_eq_true rfl) ?_
    exact cQ.mk (σ := (σ.1, σ.2.1, none, σ.2.2.2)) (by unfold spSolve; rw [if_pos e1]) ⟨h1, h2, rfl, h4, h5⟩
  · refine g_iret dX7_solve_7 rfl rfl (Nat.le_of_ble_eq_true rfl) (Nat.le_of_ble_eq_true rfl) ?_
    refine cQ.mk (σ := (σ.1, σ.2.1, some ((svR σ.1 σ.2.1).2.1.1, svL σ.1 σ.2.1, (svR σ.1 σ.2.1).2.2.2), σ.2.2.2)) (by unfold spSolve; rw [if_neg e1]) ⟨h1, h2, ⟨rfl, e2, fun v c q => ((svR_ok h1.1 σ.2.1).1 v c q).2, e3, e4⟩, h4, h5⟩
theorem f_colour (h : cSt σ G U L2 L3 P) (v : Int32) : aRet 2 0 0 mX7_colour [.ref 0, .int v] (cp G K S L1 U L2 L3 C P r) (cQ (spColour v σ) r) := by
  have hh := h
  obtain ⟨h1, h2, h3, h4, h5⟩ := h
  have hn := h1.1
  refine aRet.of (by decide) (Nat.le_of_ble_eq_true rfl) (a_ok2 rfl) ?_
  refine g_aload_n (i := 0) (pc1 := 1) dX7_colour_0 rfl rfl rfl ?_
  refine g_get (pc1 := 4) dX7_colour_1 rfl flX7_10 rfl rfl ?_
  refine g_iload_n (i := 1) (pc1 := 5) dX7_colour_4 rfl rfl rfl ?_
  refine g_V1 (M := mX2_isVertex) (pc1 := 8) dX7_colour_5 rfl lkX7_73 tmX2_isVertex rfl (c_isVertex G K S L1 U L2 L3 C P r σ.1 hn h2.1 v) (Nat.le_of_ble_eq_true rfl) rfl (Nat.le_of_ble_eq_true rfl) (Nat.le_of_ble_eq_true rfl) ?_
  rintro _ _ ⟨rfl, rfl⟩
  refine g_if_ne (pc1 := 11) (tgt := 13) dX7_colour_8 rfl (by decide) (fun c1 => ?_) (fun c1 => ?_)
  · rw [bI_ne0] at c1
    obtain ⟨u, hu, rfl⟩ := (vtx_iff hn).mp c1
    have hsp : spColour (nI u) σ = ((match σ.2.2.1 with
      | none => -2
      | some q => enO (q.1 u)), σ) := by unfold spColour; rw [if_pos (show vtx σ.1 (nI u) = true from c1), nI_clamp (by omega)]
    rw [hsp]
    refine g_aload_n (i := 0) (pc1 := 14) dX7_colour_13 rfl rfl rfl ?_
    refine g_get (pc1 := 17) dX7_colour_14 rfl flX7_39 rfl rfl ?_
    refine g_get (pc1 := 20) dX7_colour_17 rfl flX7_112 rfl rfl ?_
    cases hs : σ.2.2.1 with
    | none =>
      rw [hs] at h3
      rw [show U.1 = 0 from h3]
      refine g_if_eq (pc1 := 23) (tgt := 35) dX7_colour_20 rfl (by decide) (fun _ => ?_) (fun c => absurd rfl c)
      refine g_bipush (v := (-2)) (pc1 := 37) dX7_colour_35 rfl (by decide) ?_
      refine g_iret dX7_colour_37 rfl rfl (Nat.le_of_ble_eq_true rfl) (Nat.le_of_ble_eq_true rfl) ?_
      exact cQ.mk rfl hh
    | some q =>
      obtain ⟨b, lg, t⟩ := q
      rw [hs] at h3
      rw [h3.1]
      refine g_if_eq (pc1 := 23) (tgt := 35) dX7_colour_20 rfl (by decide) (fun c => absurd c (by decide)) (fun _ => ?_)
      refine g_aload_n (i := 0) (pc1 := 24) dX7_colour_23 rfl rfl rfl ?_
      refine g_get (pc1 := 27) dX7_colour_24 rfl flX7_39 rfl rfl ?_
      refine g_get (pc1 := 30) dX7_colour_27 rfl flX7_116 rfl rfl ?_
      refine g_iload_n (i := 1) (pc1 := 31) dX7_colour_30 rfl rfl rfl ?_
      refine g_ialdJ (pc1 := 32) dX7_colour_31 rfl rfl rfl (by omega) (by decide) ?_
      rw [h3.2.1 u hu]
      refine g_goto (tgt := 37) dX7_colour_32 (by decide) ?_
      refine g_iret dX7_colour_37 rfl rfl (Nat.le_of_ble_eq_true rfl) (Nat.le_of_ble_eq_true rfl) ?_
      exact cQ.mk rfl hh
  · rw [show (bI (decide (0 ≤ v ∧ v < nI σ.1)) = 0) = (decide (0 ≤ v ∧ v < nI σ.1) = false) from propext (bI_eq0 _)] at c1
    refine g_iconst (v := (-1)) (pc1 := 12) dX7_colour_11 rfl (by decide) ?_
    refine g_iret dX7_colour_12 rfl rfl (Nat.le_of_ble_eq_true rfl) (Nat.le_of_ble_eq_true rfl) ?_
    exact cQ.mk (by unfold spColour; rw [show vtx σ.1 v = false from c1]; rfl) hh
theorem f_clique (h : cSt σ G U L2 L3 P) : aRet 4 0 0 mX7_clique [.ref 0] (cp G K S L1 U L2 L3 C P r) (cQ (spClique σ) r) := by
  have hh := h
  obtain ⟨h1, h2, h3, h4, h5⟩ := h
  refine aRet.of (by decide) (Nat.le_of_ble_eq_true rfl) (a_ok2 rfl) ?_
  refine g_aload_n (i := 0) (pc1 := 1) dX7_clique_0 rfl rfl rfl ?_
  refine g_get (pc1 := 4) dX7_clique_1 rfl flX7_10 rfl rfl ?_
  refine g_V0 (M := mX2_greedyClique) (pc1 := 7) dX7_clique_4 rfl lkX7_120 tmX2_greedyClique rfl (c_greedyClique G K S L1 U L2 L3 C P r h2 h1) (Nat.le_of_ble_eq_true rfl) rfl (Nat.le_of_ble_eq_true rfl) (Nat.le_of_ble_eq_true rfl) ?_
  rintro _ _ ⟨rfl, rfl⟩
  refine g_iret dX7_clique_7 rfl rfl (Nat.le_of_ble_eq_true rfl) (Nat.le_of_ble_eq_true rfl) ?_
  exact cQ.mk rfl hh
theorem f_first (h : cSt σ G U L2 L3 P) : aRet 4 0 0 mX7_first [.ref 0] (cp G K S L1 U L2 L3 C P r) (cQ (spFirst σ) r) := by
  obtain ⟨h1, h2, h3, h4, h5⟩ := h
  obtain ⟨g1, nr, tn⟩ := G
  obtain rfl : g1 = nI σ.1 := h2.1
  refine aRet.of (by decide) (Nat.le_of_ble_eq_true rfl) (a_ok2 rfl) ?_
  refine g_aload_n (i := 0) (pc1 := 1) dX7_first_0 rfl rfl rfl ?_
  refine g_get (pc1 := 4) dX7_first_1 rfl flX7_21 rfl rfl ?_
  refine g_V0 (M := mX1_fillGreedily) (pc1 := 7) dX7_first_4 rfl lkX7_123 tmX1_fillGreedily rfl (c_fillGreedily σ.1 nr tn K S L1 U L2 L3 C P r h2 h1) (Nat.le_of_ble_eq_true rfl) rfl (Nat.le_of_ble_eq_true rfl) (Nat.le_of_ble_eq_true rfl) ?_
  rintro _ _ ⟨rfl, K', hK', rfl⟩
  show aGo _ 7 _ [] _ _ _
  refine g_aload_n (i := 0) (pc1 := 8) dX7_first_7 rfl rfl rfl ?_
  refine g_get (pc1 := 11) dX7_first_8 rfl flX7_21 rfl rfl ?_
  refine g_get (pc1 := 14) dX7_first_11 rfl flX7_126 rfl rfl ?_
  rw [hK'.2.2.2.2]
  refine g_iret dX7_first_14 rfl rfl (Nat.le_of_ble_eq_true rfl) (Nat.le_of_ble_eq_true rfl) ?_
  exact cQ.mk rfl ⟨h1, h2, h3, h4, h5⟩
theorem f_lines (h : cSt σ G U L2 L3 P) : aRet 2 0 0 mX7_lines [.ref 0] (cp G K S L1 U L2 L3 C P r) (cQ (spLines σ) r) := by
  have hh := h
  obtain ⟨h1, h2, h3, h4, h5⟩ := h
  unfold spLines
  refine aRet.of (by decide) (Nat.le_of_ble_eq_true rfl) (a_ok2 rfl) ?_
  refine g_aload_n (i := 0) (pc1 := 1) dX7_lines_0 rfl rfl rfl ?_
  refine g_get (pc1 := 4) dX7_lines_1 rfl flX7_39 rfl rfl ?_
  refine g_get (pc1 := 7) dX7_lines_4 rfl flX7_112 rfl rfl ?_
  cases hs : σ.2.2.1 with
  | none =>
    rw [hs] at h3
    rw [show U.1 = 0 from h3]
    refine g_if_eq (pc1 := 10) (tgt := 23) dX7_lines_7 rfl (by decide) (fun _ => ?_) (fun c => absurd rfl c)
    refine g_bipush (v := (-2)) (pc1 := 25) dX7_lines_23 rfl (by decide) ?_
    refine g_iret dX7_lines_25 rfl rfl (Nat.le_of_ble_eq_true rfl) (Nat.le_of_ble_eq_true rfl) ?_
    exact cQ.mk rfl hh
  | some q =>
    obtain ⟨b, lg, t⟩ := q
    rw [hs] at h3
    rw [h3.1]
    refine g_if_eq (pc1 := 10) (tgt := 23) dX7_lines_7 rfl (by decide) (fun c => absurd c (by decide)) (fun _ => ?_)
    refine g_aload_n (i := 0) (pc1 := 11) dX7_lines_10 rfl rfl rfl ?_
    refine g_get (pc1 := 14) dX7_lines_11 rfl flX7_39 rfl rfl ?_
    refine g_get (pc1 := 17) dX7_lines_14 rfl flX7_129 rfl rfl ?_
    refine g_get (pc1 := 20) dX7_lines_17 rfl flX7_132 rfl rfl ?_
    rw [h3.2.2.2.2.1]
    refine g_goto (tgt := 25) dX7_lines_20 (by decide) ?_
    refine g_iret dX7_lines_25 rfl rfl (Nat.le_of_ble_eq_true rfl) (Nat.le_of_ble_eq_true rfl) ?_
    exact cQ.mk rfl hh
theorem f_line (h : cSt σ G U L2 L3 P) (i w : Int32) : aRet 2 0 0 mX7_line [.ref 0, .int i, .int w] (cp G K S L1 U L2 L3 C P r) (cQ (spLine i w σ) r) := by
  have hh := h
  obtain ⟨h1, h2, h3, h4, h5⟩ := h
  unfold spLine
  refine aRet.of (by decide) (Nat.le_of_ble_eq_true rfl) (a_ok2 rfl) ?_
  refine g_aload_n (i := 0) (pc1 := 1) dX7_line_0 rfl rfl rfl ?_
  refine g_get (pc1 := 4) dX7_line_1 rfl flX7_39 rfl rfl ?_
  refine g_get (pc1 := 7) dX7_line_4 rfl flX7_112 rfl rfl ?_
  cases hs : σ.2.2.1 with
  | none =>
    rw [hs] at h3
    rw [show U.1 = 0 from h3]
    refine g_if_eq (pc1 := 10) (tgt := 25) dX7_line_7 rfl (by decide) (fun _ => ?_) (fun c => absurd rfl c)
    refine g_bipush (v := (-2)) (pc1 := 27) dX7_line_25 rfl (by decide) ?_
    refine g_iret dX7_line_27 rfl rfl (Nat.le_of_ble_eq_true rfl) (Nat.le_of_ble_eq_true rfl) ?_
    exact cQ.mk rfl hh
  | some q =>
    obtain ⟨b, lg, t⟩ := q
    rw [hs] at h3
    rw [h3.1]
    refine g_if_eq (pc1 := 10) (tgt := 25) dX7_line_7 rfl (by decide) (fun c => absurd c (by decide)) (fun _ => ?_)
    refine g_aload_n (i := 0) (pc1 := 11) dX7_line_10 rfl rfl rfl ?_
    refine g_get (pc1 := 14) dX7_line_11 rfl flX7_39 rfl rfl ?_
    refine g_get (pc1 := 17) dX7_line_14 rfl flX7_129 rfl rfl ?_
    refine g_iload_n (i := 1) (pc1 := 18) dX7_line_17 rfl rfl rfl ?_
    refine g_iload_n (i := 2) (pc1 := 19) dX7_line_18 rfl rfl rfl ?_
    refine g_V2 (M := mX3_part) (pc1 := 22) dX7_line_19 rfl lkX7_133 tmX3_part rfl (c_part14 G K S L1 U L2 L3 C P r h3.2.2.2.2 i w) (Nat.le_of_ble_eq_true rfl) rfl (Nat.le_of_ble_eq_true rfl) (Nat.le_of_ble_eq_true rfl) ?_
    rintro _ _ ⟨rfl, rfl⟩
    refine g_goto (tgt := 27) dX7_line_22 (by decide) ?_
    refine g_iret dX7_line_27 rfl rfl (Nat.le_of_ble_eq_true rfl) (Nat.le_of_ble_eq_true rfl) ?_
    exact cQ.mk rfl hh
theorem i5 {w : Int32} (h1 : ¬ w < 0) (h2 : w < 5) : w = 0 ∨ w = 1 ∨ w = 2 ∨ w = 3 ∨ w = 4 := by
  obtain ⟨j, hj, rfl⟩ := nI_of (x := w) h1
  have : j < 5 := (nI_ltI (b := 5) hj (by omega)).mp h2
  rcases (show j = 0 ∨ j = 1 ∨ j = 2 ∨ j = 3 ∨ j = 4 by omega) with rfl | rfl | rfl | rfl | rfl
  · exact Or.inl rfl
  · exact Or.inr (Or.inl rfl)
  · exact Or.inr (Or.inr (Or.inl rfl))
  · exact Or.inr (Or.inr (Or.inr (Or.inl rfl)))
  · exact Or.inr (Or.inr (Or.inr (Or.inr rfl)))
theorem wkA_out {w : Int32} (t : tT) (h : w < 0 ∨ ¬ w < 5) : wkA t w = -1 := by
  have key : ∀ k : Int32, ¬ k < 0 → k < 5 → ¬ w = k := fun k h1 h2 e => by
    subst e
    rcases h with q | q
    · exact h1 q
    · exact q h2
  unfold wkA
  rw [if_neg (key 0 (by decide) (by decide)), if_neg (key 1 (by decide) (by decide)), if_neg (key 2 (by decide) (by decide)), if_neg (key 3 (by decide) (by decide)), if_neg (key 4 (by decide) (by decide))]
theorem f_work (h : cSt σ G U L2 L3 P) (w : Int32) : aRet 2 0 0 mX7_work [.ref 0, .int w] (cp G K S L1 U L2 L3 C P r) (cQ (spWork w σ) r) := by
  have hh := h
  obtain ⟨h1, h2, h3, h4, h5⟩ := h
  unfold spWork
  refine aRet.of (by decide) (Nat.le_of_ble_eq_true rfl) (a_ok2 rfl) ?_
  refine g_aload_n (i := 0) (pc1 := 1) dX7_work_0 rfl rfl rfl ?_
  refine g_get (pc1 := 4) dX7_work_1 rfl flX7_39 rfl rfl ?_
  refine g_get (pc1 := 7) dX7_work_4 rfl flX7_112 rfl rfl ?_
  cases hs : σ.2.2.1 with
  | none =>
    rw [hs] at h3
    rw [show U.1 = 0 from h3]
    refine g_if_ne (pc1 := 10) (tgt := 13) dX7_work_7 rfl (by decide) (fun c => absurd c (fun q => q rfl)) (fun _ => ?_)
    refine g_bipush (v := (-2)) (pc1 := 12) dX7_work_10 rfl (by decide) ?_
    refine g_iret dX7_work_12 rfl rfl (Nat.le_of_ble_eq_true rfl) (Nat.le_of_ble_eq_true rfl) ?_
    exact cQ.mk rfl hh
  | some q =>
    obtain ⟨b, lg, t⟩ := q
    rw [hs] at h3
    rw [h3.1]
    refine g_if_ne (pc1 := 10) (tgt := 13) dX7_work_7 rfl (by decide) (fun _ => ?_) (fun c => absurd c (by decide))
    refine g_iload_n (i := 1) (pc1 := 14) dX7_work_13 rfl rfl rfl ?_
    refine g_if_lt (pc1 := 17) (tgt := 22) dX7_work_14 rfl (by decide) (fun c1 => ?_) (fun c1 => ?_)
    · refine g_iconst (v := (-1)) (pc1 := 23) dX7_work_22 rfl (by decide) ?_
      refine g_goto (tgt := 35) dX7_work_23 (by decide) ?_
      refine g_iret dX7_work_35 rfl rfl (Nat.le_of_ble_eq_true rfl) (Nat.le_of_ble_eq_true rfl) ?_
      exact cQ.mk (by show (wkA t w, σ) = _; rw [wkA_out t (Or.inl c1)]) hh
    · refine g_iload_n (i := 1) (pc1 := 18) dX7_work_17 rfl rfl rfl ?_
      refine g_iconst (v := 5) (pc1 := 19) dX7_work_18 rfl (by decide) ?_
      refine g_icmp_lt (pc1 := 22) (tgt := 26) dX7_work_19 rfl (by decide) (fun c2 => ?_) (fun c2 => ?_)
      · obtain ⟨t0, t1, t2, t3, t4⟩ := h3.2.2.2.1
        rcases i5 c1 c2 with rfl | rfl | rfl | rfl | rfl
        · refine g_aload_n (i := 0) (pc1 := 27) dX7_work_26 rfl rfl rfl ?_
          refine g_get (pc1 := 30) dX7_work_27 rfl flX7_39 rfl rfl ?_
          refine g_get (pc1 := 33) dX7_work_30 rfl flX7_137 rfl rfl ?_
          refine g_iload_n (i := 1) (pc1 := 34) dX7_work_33 rfl rfl rfl ?_
          refine g_ialdJ (pc1 := 35) dX7_work_34 rfl rfl (show (0 : Int32) = nI 0 from rfl) (by decide) (by decide) ?_
          rw [t0]
          refine g_iret dX7_work_35 rfl rfl (Nat.le_of_ble_eq_true rfl) (Nat.le_of_ble_eq_true rfl) ?_
          exact cQ.mk rfl hh
        · refine g_aload_n (i := 0) (pc1 := 27) dX7_work_26 rfl rfl rfl ?_
          refine g_get (pc1 := 30) dX7_work_27 rfl flX7_39 rfl rfl ?_
          refine g_get (pc1 := 33) dX7_work_30 rfl flX7_137 rfl rfl ?_
          refine g_iload_n (i := 1) (pc1 := 34) dX7_work_33 rfl rfl rfl ?_
          refine g_ialdJ (pc1 := 35) dX7_work_34 rfl rfl (show (1 : Int32) = nI 1 from rfl) (by decide) (by decide) ?_
          rw [t1]
          refine g_iret dX7_work_35 rfl rfl (Nat.le_of_ble_eq_true rfl) (Nat.le_of_ble_eq_true rfl) ?_
          exact cQ.mk rfl hh
        · refine g_aload_n (i := 0) (pc1 := 27) dX7_work_26 rfl rfl rfl ?_
          refine g_get (pc1 := 30) dX7_work_27 rfl flX7_39 rfl rfl ?_
          refine g_get (pc1 := 33) dX7_work_30 rfl flX7_137 rfl rfl ?_
          refine g_iload_n (i := 1) (pc1 := 34) dX7_work_33 rfl rfl rfl ?_
          refine g_ialdJ (pc1 := 35) dX7_work_34 rfl rfl (show (2 : Int32) = nI 2 from rfl) (by decide) (by decide) ?_
          rw [t2]
          refine g_iret dX7_work_35 rfl rfl (Nat.le_of_ble_eq_true rfl) (Nat.le_of_ble_eq_true rfl) ?_
          exact cQ.mk rfl hh
        · refine g_aload_n (i := 0) (pc1 := 27) dX7_work_26 rfl rfl rfl ?_
          refine g_get (pc1 := 30) dX7_work_27 rfl flX7_39 rfl rfl ?_
          refine g_get (pc1 := 33) dX7_work_30 rfl flX7_137 rfl rfl ?_
          refine g_iload_n (i := 1) (pc1 := 34) dX7_work_33 rfl rfl rfl ?_
          refine g_ialdJ (pc1 := 35) dX7_work_34 rfl rfl (show (3 : Int32) = nI 3 from rfl) (by decide) (by decide) ?_
          rw [t3]
          refine g_iret dX7_work_35 rfl rfl (Nat.le_of_ble_eq_true rfl) (Nat.le_of_ble_eq_true rfl) ?_
          exact cQ.mk rfl hh
        · refine g_aload_n (i := 0) (pc1 := 27) dX7_work_26 rfl rfl rfl ?_
          refine g_get (pc1 := 30) dX7_work_27 rfl flX7_39 rfl rfl ?_
          refine g_get (pc1 := 33) dX7_work_30 rfl flX7_137 rfl rfl ?_
          refine g_iload_n (i := 1) (pc1 := 34) dX7_work_33 rfl rfl rfl ?_
          refine g_ialdJ (pc1 := 35) dX7_work_34 rfl rfl (show (4 : Int32) = nI 4 from rfl) (by decide) (by decide) ?_
          rw [t4]
          refine g_iret dX7_work_35 rfl rfl (Nat.le_of_ble_eq_true rfl) (Nat.le_of_ble_eq_true rfl) ?_
          exact cQ.mk rfl hh
      · refine g_iconst (v := (-1)) (pc1 := 23) dX7_work_22 rfl (by decide) ?_
        refine g_goto (tgt := 35) dX7_work_23 (by decide) ?_
        refine g_iret dX7_work_35 rfl rfl (Nat.le_of_ble_eq_true rfl) (Nat.le_of_ble_eq_true rfl) ?_
        exact cQ.mk (by show (wkA t w, σ) = _; rw [wkA_out t (Or.inr c2)]) hh
theorem f_search (h : cSt σ G U L2 L3 P) (x : Int32) : aRet 101 0 0 mX7_search [.ref 0, .int x] (cp G K S L1 U L2 L3 C P r) (cQ (spSearch x σ) r) := by
  have hh := h
  obtain ⟨h1, h2, h3, h4, h5⟩ := h
  obtain ⟨g1, nr, tn⟩ := G
  obtain rfl : g1 = nI σ.1 := h2.1
  refine aRet.of (by decide) (Nat.le_of_ble_eq_true rfl) (a_ok2 rfl) ?_
  refine g_iload_n (i := 1) (pc1 := 1) dX7_search_0 rfl rfl rfl ?_
  refine g_if_lt (pc1 := 4) (tgt := 10) dX7_search_1 rfl (by decide) (fun c1 => ?_) (fun c1 => ?_)
  · refine g_iconst (v := (-1)) (pc1 := 11) dX7_search_10 rfl (by decide) ?_
    refine g_iret dX7_search_11 rfl rfl (Nat.le_of_ble_eq_true rfl) (Nat.le_of_ble_eq_true rfl) ?_
    exact cQ.mk (by unfold spSearch; rw [if_neg (fun q => absurd c1 (Int32.not_lt.mpr q.1))]) hh
  · refine g_iload_n (i := 1) (pc1 := 5) dX7_search_4 rfl rfl rfl ?_
    refine g_bipush (v := 30) (pc1 := 7) dX7_search_5 rfl (by decide) ?_
    refine g_icmp_le (pc1 := 10) (tgt := 12) dX7_search_7 rfl (by decide) (fun c2 => ?_) (fun c2 => ?_)
    · obtain ⟨k, hk, rfl⟩ := i30.mp ⟨Int32.not_lt.mp c1, c2⟩
      have hsp : spSearch (nI k) σ = if (srR σ.1 σ.2.1 k).1 = 2 then (-3, σ) else (nI (srR σ.1 σ.2.1 k).1, (σ.1, σ.2.1, σ.2.2.1, (srR σ.1 σ.2.1 k).2.1, σ.2.2.2.2)) := by unfold spSearch; rw [if_pos ⟨Int32.not_lt.mp c1, c2⟩, nI_clamp (by omega)]
      rw [hsp]
      refine g_aload_n (i := 0) (pc1 := 13) dX7_search_12 rfl rfl rfl ?_
      refine g_get (pc1 := 16) dX7_search_13 rfl flX7_30 rfl rfl ?_
      refine g_iload_n (i := 1) (pc1 := 17) dX7_search_16 rfl rfl rfl ?_
      refine g_V1 (M := mX4_run) (pc1 := 20) dX7_search_17 rfl lkX7_140 tmX4_run rfl (c_run σ.1 nr tn K S L1 U L2 L3 C P r h2 h1 hk) (Nat.le_of_ble_eq_true rfl) rfl (Nat.le_of_ble_eq_true rfl) (Nat.le_of_ble_eq_true rfl) ?_
      have hle : (srR σ.1 σ.2.1 k).1 ≤ 2 := vis_le _ _ _ _
      rintro _ _ ⟨K', S', L1', rfl, rfl, hq⟩
      refine g_istore_n (i := 2) (pc1 := 21) dX7_search_20 rfl rfl (Nat.le_of_ble_eq_true rfl) ?_
      refine g_iload_n (i := 2) (pc1 := 22) dX7_search_21 rfl rfl rfl ?_
      refine g_iconst (v := 2) (pc1 := 23) dX7_search_22 rfl (by decide) ?_
      refine g_icmp_ne (pc1 := 26) (tgt := 29) dX7_search_23 rfl (by decide) (fun c3 => ?_) (fun c3 => ?_)
      · have h6 : ¬ (srR σ.1 σ.2.1 k).1 = 2 := fun q => c3 (by rw [q]; rfl)
        rw [if_neg h6]
        obtain ⟨q1, q2, q3⟩ := hq h6
        refine g_aload_n (i := 0) (pc1 := 30) dX7_search_29 rfl rfl rfl ?_
        refine g_get (pc1 := 33) dX7_search_30 rfl flX7_46 rfl rfl ?_
        refine g_aload_n (i := 0) (pc1 := 34) dX7_search_33 rfl rfl rfl ?_
        refine g_get (pc1 := 37) dX7_search_34 rfl flX7_30 rfl rfl ?_
        refine g_get (pc1 := 40) dX7_search_37 rfl flX7_143 rfl rfl ?_
        refine g_V1 (M := mX3_become) (pc1 := 43) dX7_search_40 rfl lkX7_144 tmX3_become rfl (c_become18_9 (nI σ.1, nr, tn) K' S' L1' U L2 L3 C P r q2) (Nat.le_of_ble_eq_true rfl) rfl (Nat.le_of_ble_eq_true rfl) (Nat.le_of_ble_eq_true rfl) ?_
        rintro _ _ ⟨rfl, L3', hL3, rfl⟩
        show aGo _ 43 _ [] _ _ _
        have fin : cSt (σ.1, σ.2.1, σ.2.2.1, (srR σ.1 σ.2.1 k).2.1, σ.2.2.2.2) (nI σ.1, nr, tn) U L2 L3' P := ⟨h1, h2, h3, hL3, h5⟩
        refine g_iload_n (i := 2) (pc1 := 44) dX7_search_43 rfl rfl rfl ?_
        refine g_iconst (v := 1) (pc1 := 45) dX7_search_44 rfl (by decide) ?_
        refine g_icmp_ne (pc1 := 48) (tgt := 52) dX7_search_45 rfl (by decide) (fun c4 => ?_) (fun c4 => ?_)
        · have h7 : (srR σ.1 σ.2.1 k).1 = 0 := by
            have : ¬ (srR σ.1 σ.2.1 k).1 = 1 := fun q => c4 (by rw [q]; rfl)
            omega
          refine g_iconst (v := 0) (pc1 := 53) dX7_search_52 rfl (by decide) ?_
          refine g_iret dX7_search_53 rfl rfl (Nat.le_of_ble_eq_true rfl) (Nat.le_of_ble_eq_true rfl) ?_
          exact cQ.mk (by rw [h7]; rfl) fin
        · have h7 : (srR σ.1 σ.2.1 k).1 = 1 := (nI_eq (a := (srR σ.1 σ.2.1 k).1) (b := 1) (by omega) (by omega)).mp c4
          refine g_iconst (v := 1) (pc1 := 49) dX7_search_48 rfl (by decide) ?_
          refine g_goto (tgt := 53) dX7_search_49 (by decide) ?_
          refine g_iret dX7_search_53 rfl rfl (Nat.le_of_ble_eq_true rfl) (Nat.le_of_ble_eq_true rfl) ?_
          exact cQ.mk (by rw [h7]; rfl) fin
      · have h6 : (srR σ.1 σ.2.1 k).1 = 2 := (nI_eq (a := (srR σ.1 σ.2.1 k).1) (b := 2) (by omega) (by omega)).mp c3
        rw [if_pos h6]
        refine g_bipush (v := (-3)) (pc1 := 28) dX7_search_26 rfl (by decide) ?_
        refine g_iret dX7_search_28 rfl rfl (Nat.le_of_ble_eq_true rfl) (Nat.le_of_ble_eq_true rfl) ?_
        exact cQ.mk rfl ⟨h1, h2, h3, h4, h5⟩
    · refine g_iconst (v := (-1)) (pc1 := 11) dX7_search_10 rfl (by decide) ?_
      refine g_iret dX7_search_11 rfl rfl (Nat.le_of_ble_eq_true rfl) (Nat.le_of_ble_eq_true rfl) ?_
      exact cQ.mk (by unfold spSearch; rw [if_neg (fun q => c2 q.2)]) hh
theorem f_tell (h : cSt σ G U L2 L3 P) (op x : Int32) : aRet 2 0 0 mX7_tell [.ref 0, .int op, .int x] (cp G K S L1 U L2 L3 C P r) (cQ (spTell op x σ) r) := by
  have hh := h
  obtain ⟨h1, h2, h3, h4, h5⟩ := h
  refine aRet.of (by decide) (Nat.le_of_ble_eq_true rfl) (a_ok2 rfl) ?_
  refine g_iload_n (i := 1) (pc1 := 1) dX7_tell_0 rfl rfl rfl ?_
  refine g_S1 (M := mX7_isOp) (pc1 := 4) dX7_tell_1 rfl lkX7_148 tmX7_isOp (c_isOp op) (Nat.le_of_ble_eq_true rfl) rfl (Nat.le_of_ble_eq_true rfl) (Nat.le_of_ble_eq_true rfl) ?_
  rintro _ _ ⟨rfl, rfl⟩
  refine g_if_ne (pc1 := 7) (tgt := 9) dX7_tell_4 rfl (by decide) (fun c1 => ?_) (fun c1 => ?_)
  · rw [bI_ne0] at c1
    refine g_aload_n (i := 0) (pc1 := 10) dX7_tell_9 rfl rfl rfl ?_
    refine g_get (pc1 := 13) dX7_tell_10 rfl flX7_46 rfl rfl ?_
    refine g_iload_n (i := 1) (pc1 := 14) dX7_tell_13 rfl rfl rfl ?_
    refine g_iload_n (i := 2) (pc1 := 15) dX7_tell_14 rfl rfl rfl ?_
    refine g_V2 (M := mX3_write) (pc1 := 18) dX7_tell_15 rfl lkX7_151 tmX3_write rfl (c_write18 G K S L1 U L2 L3 C P r h4 op x) (Nat.le_of_ble_eq_true rfl) rfl (Nat.le_of_ble_eq_true rfl) (Nat.le_of_ble_eq_true rfl) ?_
    rintro _ _ (⟨e1, rfl, L', e2, rfl⟩ | ⟨e1, rfl, rfl⟩)
    · refine g_if_eq (pc1 := 21) (tgt := 31) dX7_tell_18 rfl (by decide) (fun c => absurd c (by decide)) (fun _ => ?_)
      refine g_aload_n (i := 0) (pc1 := 22) dX7_tell_21 rfl rfl rfl ?_
      refine g_get (pc1 := 25) dX7_tell_22 rfl flX7_46 rfl rfl ?_
      refine g_get (pc1 := 28) dX7_tell_25 rfl flX7_132 rfl rfl ?_
      rw [e2.1]
      refine g_goto (tgt := 33) dX7_tell_28 (by decide) ?_
      refine g_iret dX7_tell_33 rfl rfl (Nat.le_of_ble_eq_true rfl) (Nat.le_of_ble_eq_true rfl) ?_
      exact cQ.mk (σ := (σ.1, σ.2.1, σ.2.2.1, σ.2.2.2.1 ++ [(op, x)], σ.2.2.2.2)) (by unfold spTell; rw [if_pos c1, if_pos e1, List.length_append]; rfl) ⟨h1, h2, h3, e2, h5⟩
    · refine g_if_eq (pc1 := 21) (tgt := 31) dX7_tell_18 rfl (by decide) (fun _ => ?_) (fun c => absurd rfl c)
      refine g_bipush (v := (-3)) (pc1 := 33) dX7_tell_31 rfl (by decide) ?_
      refine g_iret dX7_tell_33 rfl rfl (Nat.le_of_ble_eq_true rfl) (Nat.le_of_ble_eq_true rfl) ?_
      exact cQ.mk (by unfold spTell; rw [if_pos c1, if_neg e1]) hh
  · rw [bI_eq0] at c1
    refine g_iconst (v := (-1)) (pc1 := 8) dX7_tell_7 rfl (by decide) ?_
    refine g_iret dX7_tell_8 rfl rfl (Nat.le_of_ble_eq_true rfl) (Nat.le_of_ble_eq_true rfl) ?_
    exact cQ.mk (by unfold spTell; rw [if_neg (by rw [c1]; decide)]) hh
theorem f_take (h : cSt σ G U L2 L3 P) : aRet 3 0 0 mX7_take [.ref 0] (cp G K S L1 U L2 L3 C P r) (cQ (spTake σ) r) := by
  have hh := h
  obtain ⟨h1, h2, h3, h4, h5⟩ := h
  unfold spTake
  refine aRet.of (by decide) (Nat.le_of_ble_eq_true rfl) (a_ok2 rfl) ?_
  refine g_aload_n (i := 0) (pc1 := 1) dX7_take_0 rfl rfl rfl ?_
  refine g_get (pc1 := 4) dX7_take_1 rfl flX7_39 rfl rfl ?_
  refine g_get (pc1 := 7) dX7_take_4 rfl flX7_112 rfl rfl ?_
  cases hs : σ.2.2.1 with
  | none =>
    rw [hs] at h3
    rw [show U.1 = 0 from h3]
    refine g_if_ne (pc1 := 10) (tgt := 13) dX7_take_7 rfl (by decide) (fun c => absurd c (fun q => q rfl)) (fun _ => ?_)
    refine g_bipush (v := (-2)) (pc1 := 12) dX7_take_10 rfl (by decide) ?_
    refine g_iret dX7_take_12 rfl rfl (Nat.le_of_ble_eq_true rfl) (Nat.le_of_ble_eq_true rfl) ?_
    exact cQ.mk rfl hh
  | some q =>
    obtain ⟨b, lg, t⟩ := q
    have h3' := h3
    rw [hs] at h3
    rw [h3.1]
    refine g_if_ne (pc1 := 10) (tgt := 13) dX7_take_7 rfl (by decide) (fun _ => ?_) (fun c => absurd c (by decide))
    refine g_aload_n (i := 0) (pc1 := 14) dX7_take_13 rfl rfl rfl ?_
    refine g_get (pc1 := 17) dX7_take_14 rfl flX7_46 rfl rfl ?_
    refine g_aload_n (i := 0) (pc1 := 18) dX7_take_17 rfl rfl rfl ?_
    refine g_get (pc1 := 21) dX7_take_18 rfl flX7_39 rfl rfl ?_
    refine g_get (pc1 := 24) dX7_take_21 rfl flX7_129 rfl rfl ?_
    refine g_V1 (M := mX3_become) (pc1 := 27) dX7_take_24 rfl lkX7_144 tmX3_become rfl (c_become18_14 G K S L1 U L2 L3 C P r h3.2.2.2.2) (Nat.le_of_ble_eq_true rfl) rfl (Nat.le_of_ble_eq_true rfl) (Nat.le_of_ble_eq_true rfl) ?_
    rintro _ _ ⟨rfl, L3', hL3, rfl⟩
    show aGo _ 27 _ [] _ _ _
    refine g_aload_n (i := 0) (pc1 := 28) dX7_take_27 rfl rfl rfl ?_
    refine g_get (pc1 := 31) dX7_take_28 rfl flX7_46 rfl rfl ?_
    refine g_get (pc1 := 34) dX7_take_31 rfl flX7_132 rfl rfl ?_
    rw [hL3.1]
    refine g_iret dX7_take_34 rfl rfl (Nat.le_of_ble_eq_true rfl) (Nat.le_of_ble_eq_true rfl) ?_
    exact cQ.mk rfl ⟨h1, h2, by rw [← hs]; exact h3', hL3, h5⟩
theorem f_alter (h : cSt σ G U L2 L3 P) (i op x : Int32) : aRet 2 0 0 mX7_alter [.ref 0, .int i, .int op, .int x] (cp G K S L1 U L2 L3 C P r) (cQ (spAlter i op x σ) r) := by
  have hh := h
  obtain ⟨h1, h2, h3, h4, h5⟩ := h
  have hl := h4.2.1
  refine aRet.of (by decide) (Nat.le_of_ble_eq_true rfl) (a_ok2 rfl) ?_
  refine g_aload_n (i := 0) (pc1 := 1) dX7_alter_0 rfl rfl rfl ?_
  refine g_get (pc1 := 4) dX7_alter_1 rfl flX7_46 rfl rfl ?_
  refine g_iload_n (i := 1) (pc1 := 5) dX7_alter_4 rfl rfl rfl ?_
  refine g_V1 (M := mX3_holds) (pc1 := 8) dX7_alter_5 rfl lkX7_154 tmX3_holds rfl (c_holds18 G K S L1 U L2 L3 C P r h4 i) (Nat.le_of_ble_eq_true rfl) rfl (Nat.le_of_ble_eq_true rfl) (Nat.le_of_ble_eq_true rfl) ?_
  rintro _ _ ⟨rfl, rfl⟩
  refine g_if_eq (pc1 := 11) (tgt := 18) dX7_alter_8 rfl (by decide) (fun c1 => ?_) (fun c1 => ?_)
  · rw [bI_eq0, decide_eq_false_iff_not] at c1
    refine g_iconst (v := (-1)) (pc1 := 19) dX7_alter_18 rfl (by decide) ?_
    refine g_iret dX7_alter_19 rfl rfl (Nat.le_of_ble_eq_true rfl) (Nat.le_of_ble_eq_true rfl) ?_
    exact cQ.mk (by unfold spAlter; rw [if_neg (fun q => c1 q.1)]) hh
  · rw [bI_ne0, decide_eq_true_eq] at c1
    refine g_iload_n (i := 2) (pc1 := 12) dX7_alter_11 rfl rfl rfl ?_
    refine g_S1 (M := mX7_isOp) (pc1 := 15) dX7_alter_12 rfl lkX7_148 tmX7_isOp (c_isOp op) (Nat.le_of_ble_eq_true rfl) rfl (Nat.le_of_ble_eq_true rfl) (Nat.le_of_ble_eq_true rfl) ?_
    rintro _ _ ⟨rfl, rfl⟩
    refine g_if_ne (pc1 := 18) (tgt := 20) dX7_alter_15 rfl (by decide) (fun c2 => ?_) (fun c2 => ?_)
    · rw [bI_ne0] at c2
      obtain ⟨j, hj, rfl⟩ := (hol_iff (by omega)).mp c1
      refine g_aload_n (i := 0) (pc1 := 21) dX7_alter_20 rfl rfl rfl ?_
      refine g_get (pc1 := 24) dX7_alter_21 rfl flX7_46 rfl rfl ?_
      refine g_get (pc1 := 27) dX7_alter_24 rfl flX7_157 rfl rfl ?_
      refine g_iload_n (i := 1) (pc1 := 28) dX7_alter_27 rfl rfl rfl ?_
      refine g_iload_n (i := 2) (pc1 := 29) dX7_alter_28 rfl rfl rfl ?_
      refine g_iastJ (pc1 := 30) dX7_alter_29 rfl rfl rfl (by omega) (by decide) ?_
      refine g_aload_n (i := 0) (pc1 := 31) dX7_alter_30 rfl rfl rfl ?_
      refine g_get (pc1 := 34) dX7_alter_31 rfl flX7_46 rfl rfl ?_
      refine g_get (pc1 := 37) dX7_alter_34 rfl flX7_160 rfl rfl ?_
      refine g_iload_n (i := 1) (pc1 := 38) dX7_alter_37 rfl rfl rfl ?_
      refine g_iload_n (i := 3) (pc1 := 39) dX7_alter_38 rfl rfl rfl ?_
      refine g_iastJ (pc1 := 40) dX7_alter_39 rfl rfl rfl (by omega) (by decide) ?_
      refine g_iconst (v := 1) (pc1 := 41) dX7_alter_40 rfl (by decide) ?_
      refine g_iret dX7_alter_41 rfl rfl (Nat.le_of_ble_eq_true rfl) (Nat.le_of_ble_eq_true rfl) ?_
      obtain ⟨sz, fo, fn⟩ := L3
      exact cQ.mk (σ := (σ.1, σ.2.1, σ.2.2.1, σ.2.2.2.1.set j (op, x), σ.2.2.2.2)) (L3 := (sz, upd fo j op, upd fn j x)) (by unfold spAlter; rw [if_pos ⟨c1, c2⟩, nI_clamp (by omega)]) ⟨h1, h2, h3, h4.set1 op x, h5⟩
    · rw [bI_eq0] at c2
      refine g_iconst (v := (-1)) (pc1 := 19) dX7_alter_18 rfl (by decide) ?_
      refine g_iret dX7_alter_19 rfl rfl (Nat.le_of_ble_eq_true rfl) (Nat.le_of_ble_eq_true rfl) ?_
      exact cQ.mk (by unfold spAlter; rw [if_neg (fun q => by rw [c2] at q; cases q.2)]) hh
theorem f_cut (h : cSt σ G U L2 L3 P) (m : Int32) : aRet 2 0 0 mX7_cut [.ref 0, .int m] (cp G K S L1 U L2 L3 C P r) (cQ (spCut m σ) r) := by
  have hh := h
  obtain ⟨h1, h2, h3, h4, h5⟩ := h
  have hl := h4.2.1
  refine aRet.of (by decide) (Nat.le_of_ble_eq_true rfl) (a_ok2 rfl) ?_
  refine g_iload_n (i := 1) (pc1 := 1) dX7_cut_0 rfl rfl rfl ?_
  refine g_if_lt (pc1 := 4) (tgt := 15) dX7_cut_1 rfl (by decide) (fun c1 => ?_) (fun c1 => ?_)
  · refine g_iconst (v := (-1)) (pc1 := 16) dX7_cut_15 rfl (by decide) ?_
    refine g_iret dX7_cut_16 rfl rfl (Nat.le_of_ble_eq_true rfl) (Nat.le_of_ble_eq_true rfl) ?_
    exact cQ.mk (by unfold spCut; rw [if_neg (fun q => absurd c1 (Int32.not_lt.mpr q.1))]) hh
  · refine g_iload_n (i := 1) (pc1 := 5) dX7_cut_4 rfl rfl rfl ?_
    refine g_aload_n (i := 0) (pc1 := 6) dX7_cut_5 rfl rfl rfl ?_
    refine g_get (pc1 := 9) dX7_cut_6 rfl flX7_46 rfl rfl ?_
    refine g_get (pc1 := 12) dX7_cut_9 rfl flX7_132 rfl rfl ?_
    rw [h4.1]
    refine g_icmp_le (pc1 := 15) (tgt := 17) dX7_cut_12 rfl (by decide) (fun c2 => ?_) (fun c2 => ?_)
    · obtain ⟨j, hj, rfl⟩ := nI_of (x := m) c1
      have hjl : j ≤ σ.2.2.2.1.length := (nI_leI hj (by omega)).mp c2
      refine g_aload_n (i := 0) (pc1 := 18) dX7_cut_17 rfl rfl rfl ?_
      refine g_get (pc1 := 21) dX7_cut_18 rfl flX7_46 rfl rfl ?_
      refine g_iload_n (i := 1) (pc1 := 22) dX7_cut_21 rfl rfl rfl ?_
      refine g_puti (pc1 := 25) dX7_cut_22 rfl flX7_132 rfl (Nat.le_of_ble_eq_true rfl) rfl rfl ?_
      refine g_iload_n (i := 1) (pc1 := 26) dX7_cut_25 rfl rfl rfl ?_
      refine g_iret dX7_cut_26 rfl rfl (Nat.le_of_ble_eq_true rfl) (Nat.le_of_ble_eq_true rfl) ?_
      obtain ⟨sz, fo, fn⟩ := L3
      exact cQ.mk (σ := (σ.1, σ.2.1, σ.2.2.1, σ.2.2.2.1.take j, σ.2.2.2.2)) (L3 := (nI j, fo, fn)) (by unfold spCut; rw [if_pos ⟨Int32.not_lt.mp c1, c2⟩, nI_clamp (by omega)]) ⟨h1, h2, h3, h4.cut hjl, h5⟩
    · refine g_iconst (v := (-1)) (pc1 := 16) dX7_cut_15 rfl (by decide) ?_
      refine g_iret dX7_cut_16 rfl rfl (Nat.le_of_ble_eq_true rfl) (Nat.le_of_ble_eq_true rfl) ?_
      exact cQ.mk (by unfold spCut; rw [if_neg (fun q => c2 q.2)]) hh
theorem f_told (h : cSt σ G U L2 L3 P) (i w : Int32) : aRet 2 0 0 mX7_told [.ref 0, .int i, .int w] (cp G K S L1 U L2 L3 C P r) (cQ (spTold i w σ) r) := by
  refine aRet.of (by decide) (Nat.le_of_ble_eq_true rfl) (a_ok2 rfl) ?_
  refine g_aload_n (i := 0) (pc1 := 1) dX7_told_0 rfl rfl rfl ?_
  refine g_get (pc1 := 4) dX7_told_1 rfl flX7_46 rfl rfl ?_
  refine g_iload_n (i := 1) (pc1 := 5) dX7_told_4 rfl rfl rfl ?_
  refine g_iload_n (i := 2) (pc1 := 6) dX7_told_5 rfl rfl rfl ?_
  refine g_V2 (M := mX3_part) (pc1 := 9) dX7_told_6 rfl lkX7_133 tmX3_part rfl (c_part18 G K S L1 U L2 L3 C P r h.2.2.2.1 i w) (Nat.le_of_ble_eq_true rfl) rfl (Nat.le_of_ble_eq_true rfl) (Nat.le_of_ble_eq_true rfl) ?_
  rintro _ _ ⟨rfl, rfl⟩
  refine g_iret dX7_told_9 rfl rfl (Nat.le_of_ble_eq_true rfl) (Nat.le_of_ble_eq_true rfl) ?_
  exact cQ.mk rfl h
theorem f_check (h : cSt σ G U L2 L3 P) (x : Int32) : aRet 101 0 0 mX7_check [.ref 0, .int x] (cp G K S L1 U L2 L3 C P r) (cQ (spCheck x σ) r) := by
  have hh := h
  obtain ⟨h1, h2, h3, h4, h5⟩ := h
  obtain ⟨g1, nr, tn⟩ := G
  obtain rfl : g1 = nI σ.1 := h2.1
  refine aRet.of (by decide) (Nat.le_of_ble_eq_true rfl) (a_ok2 rfl) ?_
  refine g_iload_n (i := 1) (pc1 := 1) dX7_check_0 rfl rfl rfl ?_
  refine g_if_lt (pc1 := 4) (tgt := 10) dX7_check_1 rfl (by decide) (fun c1 => ?_) (fun c1 => ?_)
  · refine g_bipush (v := (-2)) (pc1 := 12) dX7_check_10 rfl (by decide) ?_
    refine g_goto (tgt := 23) dX7_check_12 (by decide) ?_
    refine g_iret dX7_check_23 rfl rfl (Nat.le_of_ble_eq_true rfl) (Nat.le_of_ble_eq_true rfl) ?_
    exact cQ.mk (by unfold spCheck; rw [if_neg (fun q => absurd c1 (Int32.not_lt.mpr q.1))]) hh
  · refine g_iload_n (i := 1) (pc1 := 5) dX7_check_4 rfl rfl rfl ?_
    refine g_bipush (v := 30) (pc1 := 7) dX7_check_5 rfl (by decide) ?_
    refine g_icmp_le (pc1 := 10) (tgt := 15) dX7_check_7 rfl (by decide) (fun c2 => ?_) (fun c2 => ?_)
    · obtain ⟨k, hk, rfl⟩ := i30.mp ⟨Int32.not_lt.mp c1, c2⟩
      refine g_aload_n (i := 0) (pc1 := 16) dX7_check_15 rfl rfl rfl ?_
      refine g_get (pc1 := 19) dX7_check_16 rfl flX7_55 rfl rfl ?_
      refine g_iload_n (i := 1) (pc1 := 20) dX7_check_19 rfl rfl rfl ?_
      refine g_V1 (M := mX0_wrongLine) (pc1 := 23) dX7_check_20 rfl lkX7_163 tmX0_wrongLine rfl (c_wrongLine σ.1 nr tn S L1 U L2 L3 P r h2 h1 hk h4 K C) (Nat.le_of_ble_eq_true rfl) rfl (Nat.le_of_ble_eq_true rfl) (Nat.le_of_ble_eq_true rfl) ?_
      rintro _ _ ⟨rfl, K', C', rfl⟩
      refine g_iret dX7_check_23 rfl rfl (Nat.le_of_ble_eq_true rfl) (Nat.le_of_ble_eq_true rfl) ?_
      exact cQ.mk (by unfold spCheck; rw [if_pos ⟨Int32.not_lt.mp c1, c2⟩, nI_clamp (by omega)]) hh
    · refine g_bipush (v := (-2)) (pc1 := 12) dX7_check_10 rfl (by decide) ?_
      refine g_goto (tgt := 23) dX7_check_12 (by decide) ?_
      refine g_iret dX7_check_23 rfl rfl (Nat.le_of_ble_eq_true rfl) (Nat.le_of_ble_eq_true rfl) ?_
      exact cQ.mk (by unfold spCheck; rw [if_neg (fun q => c2 q.2)]) hh
theorem f_paint (h : cSt σ G U L2 L3 P) (v c : Int32) : aRet 2 0 0 mX7_paint [.ref 0, .int v, .int c] (cp G K S L1 U L2 L3 C P r) (cQ (spPaint v c σ) r) := by
  have hh := h
  obtain ⟨h1, h2, h3, h4, h5⟩ := h
  refine aRet.of (by decide) (Nat.le_of_ble_eq_true rfl) (a_ok2 rfl) ?_
  refine g_iload_n (i := 1) (pc1 := 1) dX7_paint_0 rfl rfl rfl ?_
  refine g_if_lt (pc1 := 4) (tgt := 22) dX7_paint_1 rfl (by decide) (fun c1 => ?_) (fun c1 => ?_)
  · refine g_bipush (v := (-2)) (pc1 := 24) dX7_paint_22 rfl (by decide) ?_
    refine g_iret dX7_paint_24 rfl rfl (Nat.le_of_ble_eq_true rfl) (Nat.le_of_ble_eq_true rfl) ?_
    exact cQ.mk (by unfold spPaint; rw [if_neg (fun q => absurd c1 (Int32.not_lt.mpr q.1.1))]) hh
  · refine g_iload_n (i := 1) (pc1 := 5) dX7_paint_4 rfl rfl rfl ?_
    refine g_bipush (v := 30) (pc1 := 7) dX7_paint_5 rfl (by decide) ?_
    refine g_icmp_ge (pc1 := 10) (tgt := 22) dX7_paint_7 rfl (by decide) (fun c2 => ?_) (fun c2 => ?_)
    · refine g_bipush (v := (-2)) (pc1 := 24) dX7_paint_22 rfl (by decide) ?_
      refine g_iret dX7_paint_24 rfl rfl (Nat.le_of_ble_eq_true rfl) (Nat.le_of_ble_eq_true rfl) ?_
      exact cQ.mk (by unfold spPaint; rw [if_neg (fun q => absurd q.1.2 (Int32.not_lt.mpr c2))]) hh
    · have hv : 0 ≤ v ∧ v < 30 := ⟨Int32.not_lt.mp c1, Int32.not_le.mp c2⟩
      obtain ⟨j, hj, rfl⟩ := (hol_iff (m := 30) (by omega)).mp hv
      have hdo : (c = -1 ∨ colOk c = true) → c = enO (deO c) ∧ ∀ d, deO c = some d → d < 30 := by
        rintro (rfl | hc)
        · exact ⟨rfl, fun d q => by cases q⟩
        · unfold colOk at hc
          rw [decide_eq_true_eq] at hc
          obtain ⟨d, hd, rfl⟩ := (hol_iff (m := 30) (by omega)).mp hc
          have hne : ¬ nI d = -1 := fun q => absurd (show nI d ≤ -1 by rw [q]; exact Int32.le_refl _) (nI_m1_lt (by omega))
          have he : deO (nI d) = some d := by unfold deO; rw [if_neg hne, nI_clamp (by omega)]
          rw [he]
          exact ⟨rfl, fun d' q => by cases q; exact hd⟩
      have last : (c = -1 ∨ colOk c = true) → aGo (2, 0, 0, mX7_paint, none, cQ (spPaint (nI j) c σ) r) 25 [.ref 0, .int (nI j), .int c, .null] [] (cp G K S L1 U L2 L3 C P r) 0 0 := by
        intro hc
        obtain ⟨d1, d2⟩ := hdo hc
        refine g_aload_n (i := 0) (pc1 := 26) dX7_paint_25 rfl rfl rfl ?_
        refine g_get (pc1 := 29) dX7_paint_26 rfl flX7_62 rfl rfl ?_
        refine g_get (pc1 := 32) dX7_paint_29 rfl flX7_169 rfl rfl ?_
        refine g_iload_n (i := 1) (pc1 := 33) dX7_paint_32 rfl rfl rfl ?_
        refine g_ialdJ (pc1 := 34) dX7_paint_33 rfl rfl rfl (by omega) (by decide) ?_
        refine g_istore_n (i := 3) (pc1 := 35) dX7_paint_34 rfl rfl (Nat.le_of_ble_eq_true rfl) ?_
        refine g_aload_n (i := 0) (pc1 := 36) dX7_paint_35 rfl rfl rfl ?_
        refine g_get (pc1 := 39) dX7_paint_36 rfl flX7_62 rfl rfl ?_
        refine g_get (pc1 := 42) dX7_paint_39 rfl flX7_169 rfl rfl ?_
        refine g_iload_n (i := 1) (pc1 := 43) dX7_paint_42 rfl rfl rfl ?_
        refine g_iload_n (i := 2) (pc1 := 44) dX7_paint_43 rfl rfl rfl ?_
        refine g_iastJ (pc1 := 45) dX7_paint_44 rfl rfl rfl (by omega) (by decide) ?_
        refine g_iload_n (i := 3) (pc1 := 46) dX7_paint_45 rfl rfl rfl ?_
        refine g_iret dX7_paint_46 rfl rfl (Nat.le_of_ble_eq_true rfl) (Nat.le_of_ble_eq_true rfl) ?_
        rw [(h5 j hj).1]
        refine cQ.mk (σ := (σ.1, σ.2.1, σ.2.2.1, σ.2.2.2.1, fun w => if w = j then deO c else σ.2.2.2.2 w)) (P := upd P j c) (by unfold spPaint; rw [if_pos ⟨hv, hc⟩, nI_clamp (by omega)]) ⟨h1, h2, h3, h4, fun w hw => ?_⟩
        show upd P j c w = enO (if w = j then deO c else σ.2.2.2.2 w) ∧ _
        by_cases hwj : w = j
        · subst hwj
          rw [pk_us, if_pos rfl]
          exact ⟨d1, fun d q => d2 d (by simpa using q)⟩
        · rw [pk_un hwj, if_neg hwj]
          exact ⟨(h5 w hw).1, fun d q => (h5 w hw).2 d (by simpa [hwj] using q)⟩
      refine g_iload_n (i := 2) (pc1 := 11) dX7_paint_10 rfl rfl rfl ?_
      refine g_iconst (v := (-1)) (pc1 := 12) dX7_paint_11 rfl (by decide) ?_
      refine g_icmp_eq (pc1 := 15) (tgt := 25) dX7_paint_12 rfl (by decide) (fun c3 => ?_) (fun c3 => ?_)
      · exact last (Or.inl c3)
      · refine g_iload_n (i := 2) (pc1 := 16) dX7_paint_15 rfl rfl rfl ?_
        refine g_S1 (M := mX7_isColour) (pc1 := 19) dX7_paint_16 rfl lkX7_166 tmX7_isColour (c_isColour c) (Nat.le_of_ble_eq_true rfl) rfl (Nat.le_of_ble_eq_true rfl) (Nat.le_of_ble_eq_true rfl) ?_
        rintro _ _ ⟨rfl, rfl⟩
        refine g_if_ne (pc1 := 22) (tgt := 25) dX7_paint_19 rfl (by decide) (fun c4 => ?_) (fun c4 => ?_)
        · rw [bI_ne0] at c4
          exact last (Or.inr c4)
        · rw [bI_eq0] at c4
          refine g_bipush (v := (-2)) (pc1 := 24) dX7_paint_22 rfl (by decide) ?_
          refine g_iret dX7_paint_24 rfl rfl (Nat.le_of_ble_eq_true rfl) (Nat.le_of_ble_eq_true rfl) ?_
          exact cQ.mk (by unfold spPaint; rw [if_neg (fun q => by
            rcases q.2 with e | e
            · exact c3 e
            · rw [c4] at e; cases e)]) hh
theorem f_copy (h : cSt σ G U L2 L3 P) : aRet 3 0 0 mX7_copy [.ref 0] (cp G K S L1 U L2 L3 C P r) (cQ (spCopy σ) r) := by
  have hh := h
  obtain ⟨h1, h2, h3, h4, h5⟩ := h
  have hn := h1.1
  unfold spCopy
  refine aRet.of (by decide) (Nat.le_of_ble_eq_true rfl) (a_ok2 rfl) ?_
  refine g_aload_n (i := 0) (pc1 := 1) dX7_copy_0 rfl rfl rfl ?_
  refine g_get (pc1 := 4) dX7_copy_1 rfl flX7_39 rfl rfl ?_
  refine g_get (pc1 := 7) dX7_copy_4 rfl flX7_112 rfl rfl ?_
  cases hs : σ.2.2.1 with
  | none =>
    rw [hs] at h3
    rw [show U.1 = 0 from h3]
    refine g_if_ne (pc1 := 10) (tgt := 13) dX7_copy_7 rfl (by decide) (fun c => absurd c (fun q => q rfl)) (fun _ => ?_)
    refine g_bipush (v := (-2)) (pc1 := 12) dX7_copy_10 rfl (by decide) ?_
    refine g_iret dX7_copy_12 rfl rfl (Nat.le_of_ble_eq_true rfl) (Nat.le_of_ble_eq_true rfl) ?_
    exact cQ.mk rfl hh
  | some q =>
    obtain ⟨b, lg, t⟩ := q
    have h3' := h3
    rw [hs] at h3
    rw [h3.1]
    refine g_if_ne (pc1 := 10) (tgt := 13) dX7_copy_7 rfl (by decide) (fun _ => ?_) (fun c => absurd c (by decide))
    refine g_aload_n (i := 0) (pc1 := 14) dX7_copy_13 rfl rfl rfl ?_
    refine g_get (pc1 := 17) dX7_copy_14 rfl flX7_39 rfl rfl ?_
    refine g_get (pc1 := 20) dX7_copy_17 rfl flX7_116 rfl rfl ?_
    refine g_iconst (v := 0) (pc1 := 21) dX7_copy_20 rfl (by decide) ?_
    refine g_aload_n (i := 0) (pc1 := 22) dX7_copy_21 rfl rfl rfl ?_
    refine g_get (pc1 := 25) dX7_copy_22 rfl flX7_62 rfl rfl ?_
    refine g_get (pc1 := 28) dX7_copy_25 rfl flX7_169 rfl rfl ?_
    refine g_iconst (v := 0) (pc1 := 29) dX7_copy_28 rfl (by decide) ?_
    refine g_aload_n (i := 0) (pc1 := 30) dX7_copy_29 rfl rfl rfl ?_
    refine g_get (pc1 := 33) dX7_copy_30 rfl flX7_10 rfl rfl ?_
    refine g_get (pc1 := 36) dX7_copy_33 rfl flX7_98 rfl rfl ?_
    rw [h2.1]
    refine g_copy0 (pc1 := 39) dX7_copy_36 rfl lkX7_172 rfl rfl (m := σ.1) (by omega) (by omega) (by decide) (Nat.le_of_ble_eq_true rfl) rfl ?_
    refine g_aload_n (i := 0) (pc1 := 40) dX7_copy_39 rfl rfl rfl ?_
    refine g_get (pc1 := 43) dX7_copy_40 rfl flX7_10 rfl rfl ?_
    refine g_get (pc1 := 46) dX7_copy_43 rfl flX7_98 rfl rfl ?_
    rw [h2.1]
    refine g_iret dX7_copy_46 rfl rfl (Nat.le_of_ble_eq_true rfl) (Nat.le_of_ble_eq_true rfl) ?_
    refine cQ.mk (P := va_cpy U.2.1 P 0 0 σ.1) rfl ⟨h1, h2, by rw [← hs]; exact h3', h4, fun w hw => ?_⟩
    show va_cpy U.2.1 P 0 0 σ.1 w = enO (if w < σ.1 then b w else σ.2.2.2.2 w) ∧ _
    by_cases hwn : w < σ.1
    · rw [pk_cpy_in (by omega) (by omega), show 0 + (w - 0) = w by omega, if_pos hwn]
      exact ⟨h3.2.1 w hwn, fun d q => h3.2.2.1 w d (by simpa [hwn] using q)⟩
    · rw [pk_cpy_out (by omega), if_neg hwn]
      exact ⟨(h5 w hw).1, fun d q => (h5 w hw).2 d (by simpa [hwn] using q)⟩
theorem f_clashes (h : cSt σ G U L2 L3 P) : aRet 3 0 0 mX7_clashes [.ref 0] (cp G K S L1 U L2 L3 C P r) (cQ (spClashes σ) r) := by
  have hh := h
  obtain ⟨h1, h2, h3, h4, h5⟩ := h
  obtain ⟨g1, nr, tn⟩ := G
  obtain rfl : g1 = nI σ.1 := h2.1
  refine aRet.of (by decide) (Nat.le_of_ble_eq_true rfl) (a_ok2 rfl) ?_
  refine g_aload_n (i := 0) (pc1 := 1) dX7_clashes_0 rfl rfl rfl ?_
  refine g_get (pc1 := 4) dX7_clashes_1 rfl flX7_62 rfl rfl ?_
  refine g_V0 (M := mX6_clashingEdges) (pc1 := 7) dX7_clashes_4 rfl lkX7_178 tmX6_clashingEdges rfl (c_clashingEdges σ.1 nr tn K S L1 U L2 L3 C P r h2 h1 h5) (Nat.le_of_ble_eq_true rfl) rfl (Nat.le_of_ble_eq_true rfl) (Nat.le_of_ble_eq_true rfl) ?_
  rintro _ _ ⟨rfl, rfl⟩
  refine g_iret dX7_clashes_7 rfl rfl (Nat.le_of_ble_eq_true rfl) (Nat.le_of_ble_eq_true rfl) ?_
  exact cQ.mk rfl hh
theorem f_used (h : cSt σ G U L2 L3 P) : aRet 3 0 0 mX7_used [.ref 0] (cp G K S L1 U L2 L3 C P r) (cQ (spUsed σ) r) := by
  have hh := h
  obtain ⟨h1, h2, h3, h4, h5⟩ := h
  obtain ⟨g1, nr, tn⟩ := G
  obtain rfl : g1 = nI σ.1 := h2.1
  refine aRet.of (by decide) (Nat.le_of_ble_eq_true rfl) (a_ok2 rfl) ?_
  refine g_aload_n (i := 0) (pc1 := 1) dX7_used_0 rfl rfl rfl ?_
  refine g_get (pc1 := 4) dX7_used_1 rfl flX7_62 rfl rfl ?_
  refine g_aload_n (i := 0) (pc1 := 5) dX7_used_4 rfl rfl rfl ?_
  refine g_get (pc1 := 8) dX7_used_5 rfl flX7_10 rfl rfl ?_
  refine g_V0 (M := mX2_all) (pc1 := 11) dX7_used_8 rfl lkX7_181 tmX2_all rfl (c_all (nI σ.1, nr, tn) K S L1 U L2 L3 C P r h1.1 rfl) (Nat.le_of_ble_eq_true rfl) rfl (Nat.le_of_ble_eq_true rfl) (Nat.le_of_ble_eq_true rfl) ?_
  rintro _ _ ⟨rfl, rfl⟩
  show aGo _ 11 _ [.int _, .ref 22] _ _ _
  refine g_V1 (M := mX6_among) (pc1 := 14) dX7_used_11 rfl lkX7_184 tmX6_among rfl (c_among σ.1 nr tn K S L1 U L2 L3 C P r h1.1 h5 _) (Nat.le_of_ble_eq_true rfl) rfl (Nat.le_of_ble_eq_true rfl) (Nat.le_of_ble_eq_true rfl) ?_
  rintro _ _ ⟨rfl, rfl⟩
  refine g_S1 (M := mJ6_bitCount_0f7a4) (pc1 := 17) dX7_used_14 rfl lkX7_187 tmJ6_bitCount_0f7a4 (c_bitCount _) (Nat.le_of_ble_eq_true rfl) rfl (Nat.le_of_ble_eq_true rfl) (Nat.le_of_ble_eq_true rfl) ?_
  rintro _ _ ⟨rfl, rfl⟩
  rw [cnt_bS]
  refine g_iret dX7_used_17 rfl rfl (Nat.le_of_ble_eq_true rfl) (Nat.le_of_ble_eq_true rfl) ?_
  exact cQ.mk rfl hh
set_option maxHeartbeats 1000000 in
theorem f_chain (h : cSt σ G U L2 L3 P) (v c : Int32) : aRet 4 0 0 mX7_chain [.ref 0, .int v, .int c] (cp G K S L1 U L2 L3 C P r) (cQ (spChain v c σ) r) := by
  have hh := h
  obtain ⟨h1, h2, h3, h4, h5⟩ := h
  have hn := h1.1
  obtain ⟨g1, nr, tn⟩ := G
  obtain rfl : g1 = nI σ.1 := h2.1
  refine aRet.of (by decide) (Nat.le_of_ble_eq_true rfl) (a_ok2 rfl) ?_
  refine g_aload_n (i := 0) (pc1 := 1) dX7_chain_0 rfl rfl rfl ?_
  refine g_get (pc1 := 4) dX7_chain_1 rfl flX7_10 rfl rfl ?_
  refine g_iload_n (i := 1) (pc1 := 5) dX7_chain_4 rfl rfl rfl ?_
  refine g_V1 (M := mX2_isVertex) (pc1 := 8) dX7_chain_5 rfl lkX7_73 tmX2_isVertex rfl (c_isVertex (nI σ.1, nr, tn) K S L1 U L2 L3 C P r σ.1 hn rfl v) (Nat.le_of_ble_eq_true rfl) rfl (Nat.le_of_ble_eq_true rfl) (Nat.le_of_ble_eq_true rfl) ?_
  rintro _ _ ⟨rfl, rfl⟩
  refine g_if_eq (pc1 := 11) (tgt := 44) dX7_chain_8 rfl (by decide) (fun c1 => ?_) (fun c1 => ?_)
  · rw [bI_eq0] at c1
    refine g_iconst (v := (-1)) (pc1 := 45) dX7_chain_44 rfl (by decide) ?_
    refine g_iret dX7_chain_45 rfl rfl (Nat.le_of_ble_eq_true rfl) (Nat.le_of_ble_eq_true rfl) ?_
    exact cQ.mk (by unfold spChain; rw [if_neg (fun q => by rw [show vtx σ.1 v = false from c1] at q; cases q.1)]) hh
  · rw [bI_ne0] at c1
    refine g_iload_n (i := 2) (pc1 := 12) dX7_chain_11 rfl rfl rfl ?_
    refine g_S1 (M := mX7_isColour) (pc1 := 15) dX7_chain_12 rfl lkX7_166 tmX7_isColour (c_isColour c) (Nat.le_of_ble_eq_true rfl) rfl (Nat.le_of_ble_eq_true rfl) (Nat.le_of_ble_eq_true rfl) ?_
    rintro _ _ ⟨rfl, rfl⟩
    refine g_if_eq (pc1 := 18) (tgt := 44) dX7_chain_15 rfl (by decide) (fun c2 => ?_) (fun c2 => ?_)
    · rw [bI_eq0] at c2
      refine g_iconst (v := (-1)) (pc1 := 45) dX7_chain_44 rfl (by decide) ?_
      refine g_iret dX7_chain_45 rfl rfl (Nat.le_of_ble_eq_true rfl) (Nat.le_of_ble_eq_true rfl) ?_
      exact cQ.mk (by unfold spChain; rw [if_neg (fun q => by rw [c2] at q; cases q.2)]) hh
    · rw [bI_ne0] at c2
      obtain ⟨u, hu, rfl⟩ := (vtx_iff hn).mp c1
      have c2' := c2
      unfold colOk at c2'
      rw [decide_eq_true_eq] at c2'
      obtain ⟨d, hd, rfl⟩ := (hol_iff (m := 30) (by omega)).mp c2'
      have hsp : spChain (nI u) (nI d) σ = (match σ.2.2.2.2 u with
        | none => (-1, σ)
        | some c0 => if c0 = d then (-1, σ) else (nI (cnt (chS2 σ.1 σ.2.1 σ.2.2.2.2 u c0 d) 32), (σ.1, σ.2.1, σ.2.2.1, σ.2.2.2.1, chP σ.1 σ.2.1 σ.2.2.2.2 u c0 d))) := by
        unfold spChain; rw [if_pos ⟨c1, c2⟩, nI_clamp (by omega), nI_clamp (by omega)]
      rw [hsp]
      refine g_aload_n (i := 0) (pc1 := 19) dX7_chain_18 rfl rfl rfl ?_
      refine g_get (pc1 := 22) dX7_chain_19 rfl flX7_62 rfl rfl ?_
      refine g_get (pc1 := 25) dX7_chain_22 rfl flX7_169 rfl rfl ?_
      refine g_iload_n (i := 1) (pc1 := 26) dX7_chain_25 rfl rfl rfl ?_
      refine g_ialdJ (pc1 := 27) dX7_chain_26 rfl rfl rfl (by omega) (by decide) ?_
      refine g_iconst (v := (-1)) (pc1 := 28) dX7_chain_27 rfl (by decide) ?_
      rw [(h5 u (by omega)).1]
      cases hpu : σ.2.2.2.2 u with
      | none =>
        refine g_icmp_eq (pc1 := 31) (tgt := 44) dX7_chain_28 rfl (by decide) (fun _ => ?_) (fun c => absurd rfl c)
        refine g_iconst (v := (-1)) (pc1 := 45) dX7_chain_44 rfl (by decide) ?_
        refine g_iret dX7_chain_45 rfl rfl (Nat.le_of_ble_eq_true rfl) (Nat.le_of_ble_eq_true rfl) ?_
        exact cQ.mk rfl hh
      | some c0 =>
        have hc0 := (h5 u (by omega)).2 c0 hpu
        have hne : ¬ enO (some c0) = -1 := fun q => absurd (show nI c0 ≤ -1 by rw [show nI c0 = -1 from q]; exact Int32.le_refl _) (nI_m1_lt (by omega))
        refine g_icmp_eq (pc1 := 31) (tgt := 44) dX7_chain_28 rfl (by decide) (fun c => absurd c hne) (fun _ => ?_)
        refine g_aload_n (i := 0) (pc1 := 32) dX7_chain_31 rfl rfl rfl ?_
        refine g_get (pc1 := 35) dX7_chain_32 rfl flX7_62 rfl rfl ?_
        refine g_get (pc1 := 38) dX7_chain_35 rfl flX7_169 rfl rfl ?_
        refine g_iload_n (i := 1) (pc1 := 39) dX7_chain_38 rfl rfl rfl ?_
        refine g_ialdJ (pc1 := 40) dX7_chain_39 rfl rfl rfl (by omega) (by decide) ?_
        refine g_iload_n (i := 2) (pc1 := 41) dX7_chain_40 rfl rfl rfl ?_
        rw [show P u = nI c0 by rw [(h5 u (by omega)).1, hpu]; rfl]
        have hiff : nI c0 = nI d ↔ c0 = d := nI_eq (by omega) (by omega)
        refine g_icmp_ne (pc1 := 44) (tgt := 46) dX7_chain_41 rfl (by decide) (fun c4 => ?_) (fun c4 => ?_)
        · have h6 : ¬ c0 = d := fun q => c4 (hiff.mpr q)
          refine g_aload_n (i := 0) (pc1 := 47) dX7_chain_46 rfl rfl rfl ?_
          refine g_get (pc1 := 50) dX7_chain_47 rfl flX7_62 rfl rfl ?_
          refine g_iload_n (i := 1) (pc1 := 51) dX7_chain_50 rfl rfl rfl ?_
          refine g_iload_n (i := 2) (pc1 := 52) dX7_chain_51 rfl rfl rfl ?_
          refine g_V2 (M := mX6_swapChain) (pc1 := 55) dX7_chain_52 rfl lkX7_192 tmX6_swapChain rfl (c_swapChain σ.1 nr tn K S L1 U L2 L3 C P r h2 h1 h5 hu hpu hd) (Nat.le_of_ble_eq_true rfl) rfl (Nat.le_of_ble_eq_true rfl) (Nat.le_of_ble_eq_true rfl) ?_
          rintro _ _ ⟨rfl, P', hP', rfl⟩
          refine g_iret dX7_chain_55 rfl rfl (Nat.le_of_ble_eq_true rfl) (Nat.le_of_ble_eq_true rfl) ?_
          exact cQ.mk (σ := (σ.1, σ.2.1, σ.2.2.1, σ.2.2.2.1, chP σ.1 σ.2.1 σ.2.2.2.2 u c0 d)) (by show (if c0 = d then _ else _) = _; rw [if_neg h6]) ⟨h1, h2, h3, h4, hP'⟩
        · have h6 := hiff.mp c4
          refine g_iconst (v := (-1)) (pc1 := 45) dX7_chain_44 rfl (by decide) ?_
          refine g_iret dX7_chain_45 rfl rfl (Nat.le_of_ble_eq_true rfl) (Nat.le_of_ble_eq_true rfl) ?_
          exact cQ.mk (by show (if c0 = d then _ else _) = _; rw [if_pos h6]) hh
theorem f_saturation (h : cSt σ G U L2 L3 P) (v : Int32) : aRet 3 0 0 mX7_saturation [.ref 0, .int v] (cp G K S L1 U L2 L3 C P r) (cQ (spSat v σ) r) := by
  have hh := h
  obtain ⟨h1, h2, h3, h4, h5⟩ := h
  have hn := h1.1
  obtain ⟨g1, nr, tn⟩ := G
  obtain rfl : g1 = nI σ.1 := h2.1
  refine aRet.of (by decide) (Nat.le_of_ble_eq_true rfl) (a_ok2 rfl) ?_
  refine g_aload_n (i := 0) (pc1 := 1) dX7_saturation_0 rfl rfl rfl ?_
  refine g_get (pc1 := 4) dX7_saturation_1 rfl flX7_10 rfl rfl ?_
  refine g_iload_n (i := 1) (pc1 := 5) dX7_saturation_4 rfl rfl rfl ?_
  refine g_V1 (M := mX2_isVertex) (pc1 := 8) dX7_saturation_5 rfl lkX7_73 tmX2_isVertex rfl (c_isVertex (nI σ.1, nr, tn) K S L1 U L2 L3 C P r σ.1 hn rfl v) (Nat.le_of_ble_eq_true rfl) rfl (Nat.le_of_ble_eq_true rfl) (Nat.le_of_ble_eq_true rfl) ?_
  rintro _ _ ⟨rfl, rfl⟩
  refine g_if_eq (pc1 := 11) (tgt := 33) dX7_saturation_8 rfl (by decide) (fun c1 => ?_) (fun c1 => ?_)
  · rw [bI_eq0] at c1
    refine g_iconst (v := (-1)) (pc1 := 34) dX7_saturation_33 rfl (by decide) ?_
    refine g_iret dX7_saturation_34 rfl rfl (Nat.le_of_ble_eq_true rfl) (Nat.le_of_ble_eq_true rfl) ?_
    exact cQ.mk (by unfold spSat; rw [show vtx σ.1 v = false from c1]; rfl) hh
  · rw [bI_ne0] at c1
    obtain ⟨u, hu, rfl⟩ := (vtx_iff hn).mp c1
    refine g_aload_n (i := 0) (pc1 := 12) dX7_saturation_11 rfl rfl rfl ?_
    refine g_get (pc1 := 15) dX7_saturation_12 rfl flX7_62 rfl rfl ?_
    refine g_aload_n (i := 0) (pc1 := 16) dX7_saturation_15 rfl rfl rfl ?_
    refine g_get (pc1 := 19) dX7_saturation_16 rfl flX7_10 rfl rfl ?_
    refine g_get (pc1 := 22) dX7_saturation_19 rfl flX7_195 rfl rfl ?_
    refine g_iload_n (i := 1) (pc1 := 23) dX7_saturation_22 rfl rfl rfl ?_
    refine g_ialdJ (pc1 := 24) dX7_saturation_23 rfl rfl rfl (by omega) (by decide) ?_
    dsimp only
    rw [show nr u = bS (σ.2.1 u) from gC.row h2 (by omega)]
    refine g_V1 (M := mX6_among) (pc1 := 27) dX7_saturation_24 rfl lkX7_184 tmX6_among rfl (c_among σ.1 nr tn K S L1 U L2 L3 C P r h1.1 h5 _) (Nat.le_of_ble_eq_true rfl) rfl (Nat.le_of_ble_eq_true rfl) (Nat.le_of_ble_eq_true rfl) ?_
    rintro _ _ ⟨rfl, rfl⟩
    refine g_S1 (M := mJ6_bitCount_0f7a4) (pc1 := 30) dX7_saturation_27 rfl lkX7_187 tmJ6_bitCount_0f7a4 (c_bitCount _) (Nat.le_of_ble_eq_true rfl) rfl (Nat.le_of_ble_eq_true rfl) (Nat.le_of_ble_eq_true rfl) ?_
    rintro _ _ ⟨rfl, rfl⟩
    rw [cnt_bS]
    refine g_goto (tgt := 34) dX7_saturation_30 (by decide) ?_
    refine g_iret dX7_saturation_34 rfl rfl (Nat.le_of_ble_eq_true rfl) (Nat.le_of_ble_eq_true rfl) ?_
    exact cQ.mk (by unfold spSat; rw [if_pos (show vtx σ.1 (nI u) = true from c1), nI_clamp (by omega)]) hh
end
