/-! ===== drawing and renumbering ===== -/
theorem g_copy0 {E : aE} {pc pc1 : Nat} {ls st : List Value} {h : List aC} {c1 s1 : Nat} {idx q0 q1 n0 n1 m : Nat} {f g : Nat → Int32} (hd : decode (eM E).2.1 pc = .ok (.invokestatic idx, 3)) (hp : pc + 3 = pc1)
    (hlk : Cond.methodLink (eM E).1.cls idx arraycopyName ∈ a_g) (hc0 : h[q0]? = some (.inl (false, n0, f))) (hc1 : h[q1]? = some (.inl (false, n1, g))) (hm0 : m ≤ n0) (hm1 : m ≤ n1) (hb : n0 < 2 ^ 31) (hdp : 2 ≤ E.1) (hok : a_ok st = true)
    (k : aGo E pc1 ls st (h.set q1 (.inl (false, n1, va_cpy f g 0 0 m))) c1 s1) : aGo E pc ls (.int (nI m) :: .int 0 :: .ref q1 :: .int 0 :: .ref q0 :: st) h c1 s1 := by
  have e1 : (nI m).toNatClampNeg = m := nI_clamp (by omega)
  have e0 : (0 : Int32).toNatClampNeg = 0 := by decide
  refine g_copy hd hp hlk wA1 wA2 wA3 hc0 hc1 (by decide) (by decide) (nI_pos (by omega)) (by rw [e0, e1]; omega) (by rw [e0, e1]; omega) hdp (a_ok1 hok) (a_ok2 hok) ?_
  rw [e1, e0]
  exact k
def lcg (x : Int32) : Int32 := 1103515245 * x + 12345
def lcgN (x : Int32) : Nat → Int32
  | 0 => x
  | k + 1 => lcg (lcgN x k)
/-- x ahead of row a -/
def drX (seed : Int32) (n : Nat) : Nat → Int32
  | 0 => seed
  | a + 1 => lcgN (drX seed n a) (n - (a + 1))
def drQ (x : Int32) : Int32 := (x.toUInt32 >>> ((16 : Int32).toUInt32 &&& Int32.toUInt32 31)).toInt32
def drY (part x : Int32) : Bool := decide (drQ x - drQ x / 100 * 100 < part)
def dpr (n a k u w : Nat) : Bool := decide ((u < w ∧ w < n ∧ (u < a ∨ (u = a ∧ w ≤ a + k))) ∨ (w < u ∧ u < n ∧ (w < a ∨ (w = a ∧ u ≤ a + k))))
def drE (seed part : Int32) (n u w : Nat) : Bool := if u < w then drY part (lcgN (drX seed n u) (w - u)) else drY part (lcgN (drX seed n w) (u - w))
/-- the edges when the rows below a, and k places of row a, are drawn -/
def drP (seed part : Int32) (n a k : Nat) (old : Nat → Nat → Bool) : Nat → Nat → Bool := fun u w => if dpr n a k u w then drE seed part n u w else old u w
theorem drP_0 (seed part : Int32) (n : Nat) (old : Nat → Nat → Bool) : drP seed part n 0 0 old = old := by
  funext u w
  unfold drP
  rw [if_neg]
  simp [dpr]; omega
theorem drP_row (seed part : Int32) {n a : Nat} (ha : a < n) (old : Nat → Nat → Bool) : drP seed part n a (n - (a + 1)) old = drP seed part n (a + 1) 0 old := by
  funext u w
  unfold drP
  have : dpr n a (n - (a + 1)) u w = dpr n (a + 1) 0 u w := by
    unfold dpr
    congr 1
    apply propext
    constructor <;> intro h <;> omega
  rw [this]
theorem drP_succ (seed part : Int32) {n a k : Nat} (hk : a + 1 + k < n) (old : Nat → Nat → Bool) (u w : Nat) : drP seed part n a (k + 1) old u w = if (u = a ∧ w = a + 1 + k) ∨ (u = a + 1 + k ∧ w = a) then drY part (lcgN (drX seed n a) (k + 1)) else drP seed part n a k old u w := by
  unfold drP
  by_cases h : (u = a ∧ w = a + 1 + k) ∨ (u = a + 1 + k ∧ w = a)
  · rw [if_pos h, if_pos (by simp only [dpr, decide_eq_true_eq]; omega)]
    unfold drE
    rcases h with ⟨rfl, rfl⟩ | ⟨rfl, rfl⟩
    · rw [if_pos (by omega), show u + 1 + k - u = k + 1 by omega]
    · rw [if_neg (by omega), show w + 1 + k - w = k + 1 by omega]
  · rw [if_neg h]
    have : dpr n a (k + 1) u w = dpr n a k u w := by
      unfold dpr
      congr 1
      apply propext
      constructor <;> intro h <;> omega
    rw [this]
def drA (seed part : Int32) (n : Nat) : Nat → Nat → Bool := drP seed part n n 0 (fun _ _ => false)
theorem drA_ok {seed part : Int32} {n : Nat} (hn : n ≤ 30) : Gok n (drA seed part n) := by
  refine ⟨hn, fun v w => ?_, fun v => ?_, fun v w h => ?_⟩
  · unfold drA drP
    have h1 : dpr n n 0 v w = dpr n n 0 w v := by
      unfold dpr
      congr 1
      apply propext
      constructor <;> intro h <;> omega
    rw [h1]
    by_cases h2 : dpr n n 0 w v = true
    · rw [if_pos h2, if_pos h2]
      simp only [dpr, decide_eq_true_eq] at h2
      unfold drE
      by_cases h3 : v < w
      · rw [if_pos h3, if_neg (by omega)]
      · rw [if_neg h3, if_pos (by omega)]
    · rw [if_neg h2, if_neg h2]
  · unfold drA drP
    rw [if_neg]
    simp [dpr]
  · unfold drA drP at h
    by_cases h2 : dpr n n 0 v w = true
    · simp only [dpr, decide_eq_true_eq] at h2; omega
    · rw [if_neg h2] at h; cases h
section
variable (G : tG) (K : tK) (S : tS) (L1 : tL) (U : tU) (L2 L3 : tL) (C : Int32 × Int32) (P : fI) (r : List aC)
set_option maxHeartbeats 1000000 in
theorem c_drawEdges {n : Nat} (hn : n ≤ 30) (hG : G.1 = nI n) (seed part : Int32) : aRet 1 0 0 mX2_drawEdges [.ref 1, .int seed, .int part] (cp G K S L1 U L2 L3 C P r) (fun v g => v = none ∧ ∃ nr : fI, gC (G.1, nr, G.2.2) n (drA seed part n) ∧ g = cp (G.1, nr, G.2.2) K S L1 U L2 L3 C P r) := by
  refine aRet.of (by decide) (Nat.le_of_ble_eq_true rfl) (a_ok2 rfl) ?_
  refine g_aload_n (i := 0) (pc1 := 1) dX2_drawEdges_0 rfl rfl rfl ?_
  refine g_get (pc1 := 4) dX2_drawEdges_1 rfl flX2_15 rfl rfl ?_
  refine g_iconst (v := 0) (pc1 := 5) dX2_drawEdges_4 rfl (by decide) ?_
  refine g_S2 (M := mJ7_fill_53178) (pc1 := 8) dX2_drawEdges_5 rfl lkX2_22 tmJ7_fill_53178 (c_fill (q := 2) (by decide) rfl 0) (Nat.le_of_ble_eq_true rfl) rfl (Nat.le_of_ble_eq_true rfl) (Nat.le_of_ble_eq_true rfl) ?_
  rintro _ _ ⟨rfl, rfl⟩
  refine g_iload_n (i := 1) (pc1 := 9) dX2_drawEdges_8 rfl rfl rfl ?_
  refine g_istore_n (i := 3) (pc1 := 10) dX2_drawEdges_9 rfl rfl (Nat.le_of_ble_eq_true rfl) ?_
  refine g_iconst (v := 0) (pc1 := 11) dX2_drawEdges_10 rfl (by decide) ?_
  refine g_istore (pc1 := 13) dX2_drawEdges_11 rfl (Nat.le_of_ble_eq_true rfl) ?_
  have key : ∀ nr : fI, gC (G.1, nr, G.2.2) n (drP seed part n 0 0 (fun _ _ => false)) → aGo (1, 0, 0, mX2_drawEdges, none, fun v g => v = none ∧ ∃ nr : fI, gC (G.1, nr, G.2.2) n (drA seed part n) ∧ g = cp (G.1, nr, G.2.2) K S L1 U L2 L3 C P r) 13 [.ref 1, .int seed, .int part, .int (drX seed n 0), .int (nI 0), .null] [] (cp (G.1, nr, G.2.2) K S L1 U L2 L3 C P r) 0 0 := by
    refine down0 (P := fun a => ∀ nr : fI, gC (G.1, nr, G.2.2) n (drP seed part n a 0 (fun _ _ => false)) → aGo _ 13 [.ref 1, .int seed, .int part, .int (drX seed n a), .int (nI a), .null] [] (cp (G.1, nr, G.2.2) K S L1 U L2 L3 C P r) 0 0) n ?_ ?_
    · intro nr hC
      refine g_iload (pc1 := 15) dX2_drawEdges_13 rfl rfl ?_
      refine g_aload_n (i := 0) (pc1 := 16) dX2_drawEdges_15 rfl rfl rfl ?_
      refine g_get (pc1 := 19) dX2_drawEdges_16 rfl flX2_9 rfl rfl ?_
      rw [hG]
      refine g_icmp_ge (pc1 := 22) (tgt := 77) dX2_drawEdges_19 rfl (by decide) (fun _ => ?_) (fun c => absurd (Int32.le_refl _) c)
      refine g_vret dX2_drawEdges_77 rfl (Nat.le_of_ble_eq_true rfl) (Nat.le_of_ble_eq_true rfl) ?_
      refine ⟨rfl, nr, ?_, rfl⟩
      rw [hG] at hC
      exact hG ▸ hC
    · intro a ha ih nr hC
      refine g_iload (pc1 := 15) dX2_drawEdges_13 rfl rfl ?_
      refine g_aload_n (i := 0) (pc1 := 16) dX2_drawEdges_15 rfl rfl rfl ?_
      refine g_get (pc1 := 19) dX2_drawEdges_16 rfl flX2_9 rfl rfl ?_
      rw [hG]
      refine g_icmp_ge (pc1 := 22) (tgt := 77) dX2_drawEdges_19 rfl (by decide) (fun c => absurd c (fun c => absurd ((nI_leI (a := n) (b := a) (by omega) (by omega)).mp c) (by omega))) (fun _ => ?_)
      refine g_iload (pc1 := 24) dX2_drawEdges_22 rfl rfl ?_
      refine g_iconst (v := 1) (pc1 := 25) dX2_drawEdges_24 rfl (by decide) ?_
      refine g_iadd (pc1 := 26) dX2_drawEdges_25 rfl ?_
      refine g_istore (pc1 := 28) dX2_drawEdges_26 rfl (Nat.le_of_ble_eq_true rfl) ?_
      rw [← hG]
      have key2 : ∀ nr : fI, gC (G.1, nr, G.2.2) n (drP seed part n a 0 (fun _ _ => false)) → aGo (1, 0, 0, mX2_drawEdges, none, fun v g => v = none ∧ ∃ nr : fI, gC (G.1, nr, G.2.2) n (drA seed part n) ∧ g = cp (G.1, nr, G.2.2) K S L1 U L2 L3 C P r) 28 [.ref 1, .int seed, .int part, .int (lcgN (drX seed n a) 0), .int (nI a), .int (nI (a + 1 + 0))] [] (cp (G.1, nr, G.2.2) K S L1 U L2 L3 C P r) 0 0 := by
        refine down0 (P := fun k => ∀ nr : fI, gC (G.1, nr, G.2.2) n (drP seed part n a k (fun _ _ => false)) → aGo _ 28 [.ref 1, .int seed, .int part, .int (lcgN (drX seed n a) k), .int (nI a), .int (nI (a + 1 + k))] [] (cp (G.1, nr, G.2.2) K S L1 U L2 L3 C P r) 0 0) (n - (a + 1)) ?_ ?_
        · intro nr hC
          refine g_iload (pc1 := 30) dX2_drawEdges_28 rfl rfl ?_
          refine g_aload_n (i := 0) (pc1 := 31) dX2_drawEdges_30 rfl rfl rfl ?_
          refine g_get (pc1 := 34) dX2_drawEdges_31 rfl flX2_9 rfl rfl ?_
          rw [hG, show a + 1 + (n - (a + 1)) = n by omega]
          refine g_icmp_ge (pc1 := 37) (tgt := 71) dX2_drawEdges_34 rfl (by decide) (fun _ => ?_) (fun c => absurd (Int32.le_refl _) c)
          refine g_iinc (pc1 := 74) dX2_drawEdges_71 rfl rfl rfl ?_
          refine g_goto (tgt := 13) dX2_drawEdges_74 (by decide) ?_
          refine aGo.forget 5 ?_
          rw [← hG]
          refine aGo.eq (ih nr (by rw [← drP_row seed part ha]; exact hC)) ?_ rfl rfl
          show [Value.ref 1, .int seed, .int part, .int (lcgN (drX seed n a) (n - (a + 1))), .int (nI a + Int32.ofInt 1), .null] = _
          rw [show nI a + Int32.ofInt 1 = nI (a + 1) from nI_1 a]
          rfl
        · intro k hk ih2 nr hC
          refine g_iload (pc1 := 30) dX2_drawEdges_28 rfl rfl ?_
          refine g_aload_n (i := 0) (pc1 := 31) dX2_drawEdges_30 rfl rfl rfl ?_
          refine g_get (pc1 := 34) dX2_drawEdges_31 rfl flX2_9 rfl rfl ?_
          rw [hG]
          refine g_icmp_ge (pc1 := 37) (tgt := 71) dX2_drawEdges_34 rfl (by decide) (fun c => absurd c (fun c => absurd ((nI_leI (a := n) (b := a + 1 + k) (by omega) (by omega)).mp c) (by omega))) (fun _ => ?_)
          refine g_ldc (pc1 := 39) dX2_drawEdges_37 rfl ctX2_50 ?_
          refine g_iload_n (i := 3) (pc1 := 40) dX2_drawEdges_39 rfl rfl rfl ?_
          refine g_imul (pc1 := 41) dX2_drawEdges_40 rfl ?_
          refine g_sipush (v := 12345) (pc1 := 44) dX2_drawEdges_41 rfl (by decide) ?_
          refine g_iadd (pc1 := 45) dX2_drawEdges_44 rfl ?_
          refine g_istore_n (i := 3) (pc1 := 46) dX2_drawEdges_45 rfl rfl (Nat.le_of_ble_eq_true rfl) ?_
          refine g_iload_n (i := 3) (pc1 := 47) dX2_drawEdges_46 rfl rfl rfl ?_
          refine g_bipush (v := 16) (pc1 := 49) dX2_drawEdges_47 rfl (by decide) ?_
          refine g_iushr (pc1 := 50) dX2_drawEdges_49 rfl ?_
          refine g_bipush (v := 100) (pc1 := 52) dX2_drawEdges_50 rfl (by decide) ?_
          refine g_irem (pc1 := 53) dX2_drawEdges_52 rfl (by decide) ?_
          refine g_iload_n (i := 2) (pc1 := 54) dX2_drawEdges_53 rfl rfl rfl ?_
          have eL : ∀ nr' : fI, gC (G.1, nr', G.2.2) n (drP seed part n a (k + 1) (fun _ _ => false)) → aGo (1, 0, 0, mX2_drawEdges, none, fun v g => v = none ∧ ∃ nr : fI, gC (G.1, nr, G.2.2) n (drA seed part n) ∧ g = cp (G.1, nr, G.2.2) K S L1 U L2 L3 C P r) 65 [.ref 1, .int seed, .int part, .int (lcg (lcgN (drX seed n a) k)), .int (nI a), .int (nI (a + 1 + k))] [] (cp (G.1, nr', G.2.2) K S L1 U L2 L3 C P r) 0 0 := by
            intro nr' hC'
            refine g_iinc (pc1 := 68) dX2_drawEdges_65 rfl rfl rfl ?_
            refine g_goto (tgt := 28) dX2_drawEdges_68 (by decide) ?_
            refine aGo.eq (ih2 nr' hC') ?_ rfl rfl
            show [Value.ref 1, .int seed, .int part, .int (lcg (lcgN (drX seed n a) k)), .int (nI a), .int (nI (a + 1 + k) + Int32.ofInt 1)] = _
            rw [show nI (a + 1 + k) + Int32.ofInt 1 = nI (a + 1 + (k + 1)) from nI_1 _]
            rfl
          rw [← hG]
          refine g_icmp_ge (pc1 := 57) (tgt := 65) dX2_drawEdges_54 rfl (by decide) (fun c => ?_) (fun c => ?_)
          · refine eL nr ?_
            have hy : drY part (lcgN (drX seed n a) (k + 1)) = false := decide_eq_false (Int32.not_lt.mpr c)
            have e : drP seed part n a (k + 1) (fun _ _ => false) = drP seed part n a k (fun _ _ => false) := by
              funext u w
              rw [drP_succ seed part (by omega), hy]
              by_cases h : (u = a ∧ w = a + 1 + k) ∨ (u = a + 1 + k ∧ w = a)
              · rw [if_pos h]
                unfold drP
                rw [if_neg]
                simp only [dpr, decide_eq_true_eq]; omega
              · rw [if_neg h]
            rw [e]; exact hC
          · have hy : drY part (lcgN (drX seed n a) (k + 1)) = true := decide_eq_true (Int32.not_le.mp c)
            refine g_aload_n (i := 0) (pc1 := 58) dX2_drawEdges_57 rfl rfl rfl ?_
            refine g_iload (pc1 := 60) dX2_drawEdges_58 rfl rfl ?_
            refine g_iload (pc1 := 62) dX2_drawEdges_60 rfl rfl ?_
            refine g_V2 (M := mX2_flip) (pc1 := 65) dX2_drawEdges_62 rfl lkX2_51 tmX2_flip rfl (c_flip (G.1, nr, G.2.2) K S L1 U L2 L3 C P r hC (a := a) (b := a + 1 + k) (by omega) (by omega) (by omega)) (Nat.le_of_ble_eq_true rfl) rfl (Nat.le_of_ble_eq_true rfl) (Nat.le_of_ble_eq_true rfl) ?_
            rintro _ _ ⟨rfl, nr', hC', rfl⟩
            refine eL nr' ?_
            have e : flA (drP seed part n a k (fun _ _ => false)) a (a + 1 + k) = drP seed part n a (k + 1) (fun _ _ => false) := by
              funext u w
              rw [drP_succ seed part (by omega), hy]
              unfold flA
              by_cases h : (u = a ∧ w = a + 1 + k) ∨ (u = a + 1 + k ∧ w = a)
              · rw [if_pos h]
                have h0 : drP seed part n a k (fun _ _ => false) u w = false := by
                  unfold drP
                  rw [if_neg]
                  simp only [dpr, decide_eq_true_eq]; omega
                rw [h0]
                rcases h with ⟨rfl, rfl⟩ | ⟨rfl, rfl⟩ <;> simp
              · rw [if_neg h]
                have h1 : ((decide (u = a) && decide (w = a + 1 + k)) || (decide (u = a + 1 + k) && decide (w = a))) = false := by
                  simp only [Bool.or_eq_false_iff, Bool.and_eq_false_iff, decide_eq_false_iff_not]
                  omega
                rw [h1]; simp
            rw [← e]; exact hC'
      refine aGo.eq (key2 nr hC) ?_ rfl rfl
      show [Value.ref 1, .int seed, .int part, .int (drX seed n a), .int (nI a), .int (nI a + 1)] = _
      rw [show nI a + 1 = nI (a + 1 + 0) from nI_1 a]
      rfl
  refine aGo.eq (key (fil 30 0 G.2.1) ⟨hG, fun v hv i => ?_⟩) rfl rfl rfl
  rw [drP_0]
  show bt (fil 30 0 G.2.1 v) i = false
  simp [fil, hv, b_0]
end
/-! the renumbering -/
def sg (n f s v : Nat) : Nat := (v * f + s) % n
def tnA (A : Nat → Nat → Bool) (n f s : Nat) : Nat → Nat → Bool := fun u w => ex (fun v => decide (sg n f s v = u) && ex (fun x => A v x && decide (sg n f s x = w)) n) n
/-- sg is a renumbering -/
def sgP (n f s : Nat) : Prop := (∀ v w, v < n → w < n → sg n f s v = sg n f s w → v = w) ∧ ∀ u, u < n → ∃ v, v < n ∧ sg n f s v = u
section
variable (G : tG) (K : tK) (S : tS) (L1 : tL) (U : tU) (L2 L3 : tL) (C : Int32 × Int32) (P : fI) (r : List aC)
theorem sg_val {n f s v : Nat} (hn0 : 0 < n) (hn : n ≤ 30) (hf : f ≤ 30) (hs : s ≤ 30) (hv : v ≤ 30) : nI v * nI f + nI s - (nI v * nI f + nI s) / nI n * nI n = nI (sg n f s v) := by
  have h1 : v * f ≤ 30 * 30 := Nat.mul_le_mul hv hf
  rw [pk_mul, nI_add, pk_rem (by omega) hn0 (by omega)]
  rfl
set_option maxHeartbeats 1000000 in
theorem c_renumber {n f s : Nat} {A : Nat → Nat → Bool} (hC : gC G n A) (hk : Gok n A) (hn0 : 0 < n) (hf : f ≤ 30) (hs : s ≤ 30) (hp : sgP n f s) : aRet 2 0 0 mX2_renumber [.ref 1, .int (nI f), .int (nI s)] (cp G K S L1 U L2 L3 C P r) (fun v g => v = none ∧ ∃ nr tn : fI, gC (G.1, nr, tn) n (tnA A n f s) ∧ g = cp (G.1, nr, tn) K S L1 U L2 L3 C P r) := by
  have hn := hk.1
  have hn1 : ¬ nI n = 0 := nI_ne0 hn0 (by omega)
  refine aRet.of (by decide) (Nat.le_of_ble_eq_true rfl) (a_ok2 rfl) ?_
  refine g_aload_n (i := 0) (pc1 := 1) dX2_renumber_0 rfl rfl rfl ?_
  refine g_get (pc1 := 4) dX2_renumber_1 rfl flX2_9 rfl rfl ?_
  rw [hC.1]
  refine g_if_gt (pc1 := 7) (tgt := 8) dX2_renumber_4 rfl (by decide) (fun _ => ?_) (fun c => absurd ((nI_ltI (a := 0) (b := n) (by omega) (by omega)).mpr hn0) c)
  refine g_iconst (v := 0) (pc1 := 9) dX2_renumber_8 rfl (by decide) ?_
  refine g_istore_n (i := 3) (pc1 := 10) dX2_renumber_9 rfl rfl (Nat.le_of_ble_eq_true rfl) ?_
  have key : ∀ tn : fI, (∀ u, u < 0 → tn (sg n f s u) = bS (fun i => ex (fun x => A u x && decide (sg n f s x = i)) n)) → aGo (2, 0, 0, mX2_renumber, none, fun v g => v = none ∧ ∃ nr tn : fI, gC (G.1, nr, tn) n (tnA A n f s) ∧ g = cp (G.1, nr, tn) K S L1 U L2 L3 C P r) 10 [.ref 1, .int (nI f), .int (nI s), .int (nI 0), .null, .null] [] (cp (G.1, G.2.1, tn) K S L1 U L2 L3 C P r) 0 0 := by
    refine down0 (P := fun v => ∀ tn : fI, (∀ u, u < v → tn (sg n f s u) = bS (fun i => ex (fun x => A u x && decide (sg n f s x = i)) n)) → aGo _ 10 [.ref 1, .int (nI f), .int (nI s), .int (nI v), .null, .null] [] (cp (G.1, G.2.1, tn) K S L1 U L2 L3 C P r) 0 0) n ?_ ?_
    · intro tn ht
      refine g_iload_n (i := 3) (pc1 := 11) dX2_renumber_10 rfl rfl rfl ?_
      refine g_aload_n (i := 0) (pc1 := 12) dX2_renumber_11 rfl rfl rfl ?_
      refine g_get (pc1 := 15) dX2_renumber_12 rfl flX2_9 rfl rfl ?_
      rw [hC.1]
      refine g_icmp_ge (pc1 := 18) (tgt := 90) dX2_renumber_15 rfl (by decide) (fun _ => ?_) (fun c => absurd (Int32.le_refl _) c)
      refine g_aload_n (i := 0) (pc1 := 91) dX2_renumber_90 rfl rfl rfl ?_
      refine g_get (pc1 := 94) dX2_renumber_91 rfl flX2_19 rfl rfl ?_
      refine g_iconst (v := 0) (pc1 := 95) dX2_renumber_94 rfl (by decide) ?_
      refine g_aload_n (i := 0) (pc1 := 96) dX2_renumber_95 rfl rfl rfl ?_
      refine g_get (pc1 := 99) dX2_renumber_96 rfl flX2_15 rfl rfl ?_
      refine g_iconst (v := 0) (pc1 := 100) dX2_renumber_99 rfl (by decide) ?_
      refine g_aload_n (i := 0) (pc1 := 101) dX2_renumber_100 rfl rfl rfl ?_
      refine g_get (pc1 := 104) dX2_renumber_101 rfl flX2_9 rfl rfl ?_
      refine g_copy0 (pc1 := 107) dX2_renumber_104 rfl lkX2_58 rfl rfl (m := n) (by omega) (by omega) (by decide) (Nat.le_of_ble_eq_true rfl) rfl ?_
      refine g_vret dX2_renumber_107 rfl (Nat.le_of_ble_eq_true rfl) (Nat.le_of_ble_eq_true rfl) ?_
      refine ⟨rfl, va_cpy tn G.2.1 0 0 n, tn, ⟨rfl, fun u hu i => ?_⟩, rfl⟩
      show bt (va_cpy tn G.2.1 0 0 n u) i = _
      by_cases hun : u < n
      · rw [pk_cpy_in (by omega) (by omega), show 0 + (u - 0) = u by omega]
        obtain ⟨v, hv, e⟩ := hp.2 u hun
        rw [← e, ht v hv, bt_bS]
        unfold tnA
        cases h1 : ex (fun x => A v x && decide (sg n f s x = i)) n with
        | false =>
          rw [ex_false.mpr]
          · simp
          · intro v' hv'
            by_cases h2 : sg n f s v' = sg n f s v
            · rw [hp.1 v' v hv' hv h2, h1]; simp
            · simp [h2]
        | true =>
          rw [ex_iff.mpr ⟨v, hv, by simp [h1]⟩]
          obtain ⟨x, hx1, hx2⟩ := ex_iff.mp h1
          simp only [Bool.and_eq_true, decide_eq_true_eq] at hx2
          have : sg n f s x < n := Nat.mod_lt _ hn0
          simp; omega
      · rw [pk_cpy_out (by omega), hC.2 u hu, hk.out1 (by omega)]
        unfold tnA
        symm
        rw [ex_false]
        intro v hv
        have : sg n f s v < n := Nat.mod_lt _ hn0
        simp only [Bool.and_eq_false_iff, decide_eq_false_iff_not]
        left; omega
    · intro v hv ih tn ht
      refine g_iload_n (i := 3) (pc1 := 11) dX2_renumber_10 rfl rfl rfl ?_
      refine g_aload_n (i := 0) (pc1 := 12) dX2_renumber_11 rfl rfl rfl ?_
      refine g_get (pc1 := 15) dX2_renumber_12 rfl flX2_9 rfl rfl ?_
      rw [hC.1]
      refine g_icmp_ge (pc1 := 18) (tgt := 90) dX2_renumber_15 rfl (by decide) (fun c => absurd c (fun c => absurd ((nI_leI (a := n) (b := v) (by omega) (by omega)).mp c) (by omega))) (fun _ => ?_)
      refine g_iconst (v := 0) (pc1 := 19) dX2_renumber_18 rfl (by decide) ?_
      refine g_istore (pc1 := 21) dX2_renumber_19 rfl (Nat.le_of_ble_eq_true rfl) ?_
      refine g_iconst (v := 0) (pc1 := 22) dX2_renumber_21 rfl (by decide) ?_
      refine g_istore (pc1 := 24) dX2_renumber_22 rfl (Nat.le_of_ble_eq_true rfl) ?_
      rw [bS_0]
      rw [← hC.1]
      refine down0 (P := fun w => aGo _ 24 [.ref 1, .int (nI f), .int (nI s), .int (nI v), .int (bS (fun i => ex (fun x => A v x && decide (sg n f s x = i)) w)), .int (nI w)] [] (cp (G.1, G.2.1, tn) K S L1 U L2 L3 C P r) 0 0) n ?_ ?_
      · refine g_iload (pc1 := 26) dX2_renumber_24 rfl rfl ?_
        refine g_aload_n (i := 0) (pc1 := 27) dX2_renumber_26 rfl rfl rfl ?_
        refine g_get (pc1 := 30) dX2_renumber_27 rfl flX2_9 rfl rfl ?_
        rw [hC.1]
        refine g_icmp_ge (pc1 := 33) (tgt := 67) dX2_renumber_30 rfl (by decide) (fun _ => ?_) (fun c => absurd (Int32.le_refl _) c)
        refine g_aload_n (i := 0) (pc1 := 68) dX2_renumber_67 rfl rfl rfl ?_
        refine g_get (pc1 := 71) dX2_renumber_68 rfl flX2_19 rfl rfl ?_
        refine g_iload_n (i := 3) (pc1 := 72) dX2_renumber_71 rfl rfl rfl ?_
        refine g_iload_n (i := 1) (pc1 := 73) dX2_renumber_72 rfl rfl rfl ?_
        refine g_imul (pc1 := 74) dX2_renumber_73 rfl ?_
        refine g_iload_n (i := 2) (pc1 := 75) dX2_renumber_74 rfl rfl rfl ?_
        refine g_iadd (pc1 := 76) dX2_renumber_75 rfl ?_
        refine g_aload_n (i := 0) (pc1 := 77) dX2_renumber_76 rfl rfl rfl ?_
        refine g_get (pc1 := 80) dX2_renumber_77 rfl flX2_9 rfl rfl ?_
        refine g_irem (pc1 := 81) dX2_renumber_80 rfl hn1 ?_
        rw [sg_val hn0 hn hf hs (by omega)]
        have hlt : sg n f s v < n := Nat.mod_lt _ hn0
        refine g_iload (pc1 := 83) dX2_renumber_81 rfl rfl ?_
        refine g_iastJ (pc1 := 84) dX2_renumber_83 rfl rfl rfl (by omega) (by decide) ?_
        refine g_iinc (pc1 := 87) dX2_renumber_84 rfl rfl rfl ?_
        refine g_goto (tgt := 10) dX2_renumber_87 (by decide) ?_
        refine aGo.forget 4 ?_
        refine aGo.forget 5 ?_
        rw [← hC.1]
        refine aGo.eq (ih (upd tn (sg n f s v) (bS (fun i => ex (fun x => A v x && decide (sg n f s x = i)) n))) (fun u hu => ?_)) ?_ rfl rfl
        · by_cases huv : u = v
          · subst huv; rw [pk_us]
          · rw [pk_un (fun q => huv (hp.1 u v (by omega) hv q))]
            exact ht u (by omega)
        · show [Value.ref 1, .int (nI f), .int (nI s), .int (nI v + Int32.ofInt 1), .null, .null] = _
          rw [show nI v + Int32.ofInt 1 = nI (v + 1) from nI_1 v]
      · intro w hw ih2
        refine g_iload (pc1 := 26) dX2_renumber_24 rfl rfl ?_
        refine g_aload_n (i := 0) (pc1 := 27) dX2_renumber_26 rfl rfl rfl ?_
        refine g_get (pc1 := 30) dX2_renumber_27 rfl flX2_9 rfl rfl ?_
        rw [hC.1]
        refine g_icmp_ge (pc1 := 33) (tgt := 67) dX2_renumber_30 rfl (by decide) (fun c => absurd c (fun c => absurd ((nI_leI (a := n) (b := w) (by omega) (by omega)).mp c) (by omega))) (fun _ => ?_)
        refine g_aload_n (i := 0) (pc1 := 34) dX2_renumber_33 rfl rfl rfl ?_
        refine g_iload_n (i := 3) (pc1 := 35) dX2_renumber_34 rfl rfl rfl ?_
        refine g_iload (pc1 := 37) dX2_renumber_35 rfl rfl ?_
        refine g_V2 (M := mX2_joined) (pc1 := 40) dX2_renumber_37 rfl lkX2_55 tmX2_joined rfl (c_joined (nI n, G.2.1, tn) K S L1 U L2 L3 C P r (n := n) (A := A) ⟨rfl, hC.2⟩ (a := v) (b := w) (by omega) (by omega)) (Nat.le_of_ble_eq_true rfl) rfl (Nat.le_of_ble_eq_true rfl) (Nat.le_of_ble_eq_true rfl) ?_
        rintro _ _ ⟨rfl, rfl⟩
        refine g_if_eq (pc1 := 43) (tgt := 61) dX2_renumber_40 rfl (by decide) (fun c => ?_) (fun c => ?_)
        · rw [bI_eq0] at c
          refine g_iinc (pc1 := 64) dX2_renumber_61 rfl rfl rfl ?_
          refine g_goto (tgt := 24) dX2_renumber_64 (by decide) ?_
          rw [← hC.1]
          refine aGo.eq ih2 ?_ rfl rfl
          show [Value.ref 1, .int (nI f), .int (nI s), .int (nI v), .int (bS (fun i => ex (fun x => A v x && decide (sg n f s x = i)) w)), .int (nI w + Int32.ofInt 1)] = _
          rw [show nI w + Int32.ofInt 1 = nI (w + 1) from nI_1 w]
          have e : (fun i => ex (fun x => A v x && decide (sg n f s x = i)) (w + 1)) = (fun i => ex (fun x => A v x && decide (sg n f s x = i)) w) := by
            funext i
            show (ex _ w || (A v w && _)) = _
            rw [c]; simp
          rw [e]
        · rw [bI_ne0] at c
          refine g_iload (pc1 := 45) dX2_renumber_43 rfl rfl ?_
          refine g_iconst (v := 1) (pc1 := 46) dX2_renumber_45 rfl (by decide) ?_
          refine g_iload (pc1 := 48) dX2_renumber_46 rfl rfl ?_
          refine g_iload_n (i := 1) (pc1 := 49) dX2_renumber_48 rfl rfl rfl ?_
          refine g_imul (pc1 := 50) dX2_renumber_49 rfl ?_
          refine g_iload_n (i := 2) (pc1 := 51) dX2_renumber_50 rfl rfl rfl ?_
          refine g_iadd (pc1 := 52) dX2_renumber_51 rfl ?_
          refine g_aload_n (i := 0) (pc1 := 53) dX2_renumber_52 rfl rfl rfl ?_
          refine g_get (pc1 := 56) dX2_renumber_53 rfl flX2_9 rfl rfl ?_
          refine g_irem (pc1 := 57) dX2_renumber_56 rfl hn1 ?_
          rw [sg_val hn0 hn hf hs (by omega)]
          have hlt : sg n f s w < n := Nat.mod_lt _ hn0
          refine g_ishl (pc1 := 58) dX2_renumber_57 rfl ?_
          refine g_ior (pc1 := 59) dX2_renumber_58 rfl ?_
          refine g_istore (pc1 := 61) dX2_renumber_59 rfl (Nat.le_of_ble_eq_true rfl) ?_
          refine g_iinc (pc1 := 64) dX2_renumber_61 rfl rfl rfl ?_
          refine g_goto (tgt := 24) dX2_renumber_64 (by decide) ?_
          rw [← hC.1]
          refine aGo.eq ih2 ?_ rfl rfl
          show [Value.ref 1, .int (nI f), .int (nI s), .int (nI v), .int (bS (fun i => ex (fun x => A v x && decide (sg n f s x = i)) w) ||| (1 : Int32) <<< (nI (sg n f s w) &&& 31)), .int (nI w + Int32.ofInt 1)] = _
          rw [show nI w + Int32.ofInt 1 = nI (w + 1) from nI_1 w, bS_bit (by omega), bS_or]
          have e : (fun i => ex (fun x => A v x && decide (sg n f s x = i)) w || decide (i = sg n f s w)) = (fun i => ex (fun x => A v x && decide (sg n f s x = i)) (w + 1)) := by
            funext i
            show _ = (ex _ w || (A v w && decide (sg n f s w = i)))
            rw [c, Bool.true_and]
            congr 1
            by_cases h : i = sg n f s w
            · simp [h]
            · simp [h, Ne.symm h]
          rw [e]
  rw [← hC.1]
  exact key G.2.2 (fun u hu => absurd hu (Nat.not_lt_zero u))
end
