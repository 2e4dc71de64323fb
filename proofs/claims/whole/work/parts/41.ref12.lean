/-! ===== the reference: chain ===== -/
theorem cnt_sub {p q : Nat → Bool} : ∀ {n : Nat}, (∀ i, i < n → p i = true → q i = true) → cnt p n ≤ cnt q n
  | 0, _ => Nat.le_refl _
  | n + 1, h => by
    have ih := cnt_sub (n := n) (p := p) (q := q) (fun i hi => h i (by omega))
    unfold cnt
    by_cases hp : p n = true
    · rw [if_pos hp, if_pos (h n (by omega) hp)]; omega
    · rw [if_neg hp]; omega
theorem cnt_sublt {p q : Nat → Bool} : ∀ {n i : Nat}, (∀ i, i < n → p i = true → q i = true) → i < n → p i = false → q i = true → cnt p n < cnt q n
  | 0, i, _, h, _, _ => absurd h (Nat.not_lt_zero i)
  | n + 1, i, h, hi, h1, h2 => by
    unfold cnt
    by_cases hin : i = n
    · subst hin
      have := cnt_sub (n := i) (p := p) (q := q) (fun j hj => h j (by omega))
      rw [h1, h2]; simp; omega
    · have := cnt_sublt (n := n) (i := i) (p := p) (q := q) (fun j hj => h j (by omega)) (by omega) h1 h2
      by_cases hp : p n = true
      · rw [if_pos hp, if_pos (h n (by omega) hp)]; omega
      · rw [if_neg hp]; omega
section
variable {n : Nat} {A : Nat → Nat → Bool} {s : Nat → Bool} {v : Nat}
theorem rch_mono (i : Nat) (j : Nat) (h : rch n A s v i j = true) : rch n A s v (i + 1) j = true := by
  show (rch n A s v i j || _) = true
  rw [h]; rfl
theorem rch_lt (hv : v < n) (hs : ∀ j, s j = true → j < n) : ∀ (i j : Nat), rch n A s v i j = true → j < n
  | 0, j, h => by have : j = v := of_decide_eq_true h; omega
  | i + 1, j, h => by
    have h' : (rch n A s v i j || (nbO n A (rch n A s v i) j && s j)) = true := h
    rw [Bool.or_eq_true, Bool.and_eq_true] at h'
    rcases h' with h' | h'
    · exact rch_lt hv hs i j h'
    · exact hs j h'.2
theorem rch_stay {k : Nat} (h : ∀ j, rch n A s v (k + 1) j = rch n A s v k j) : ∀ m j, rch n A s v (k + m) j = rch n A s v k j
  | 0, _ => rfl
  | m + 1, j => by
    have ih : rch n A s v (k + m) = rch n A s v k := funext (rch_stay h m)
    show (rch n A s v (k + m) j || (nbO n A (rch n A s v (k + m)) j && s j)) = _
    rw [ih]
    exact h j
theorem rch_closed (hv : v < n) (hs : ∀ j, s j = true → j < n) (j : Nat) : rch n A s v (n + 1) j = rch n A s v n j := by
  have key : ∀ i, (∃ k, k ≤ i ∧ ∀ j, rch n A s v (k + 1) j = rch n A s v k j) ∨ i + 1 ≤ cnt (rch n A s v i) n := by
    intro i
    induction i with
    | zero => right; exact cnt_pos hv (show decide (v = v) = true by simp)
    | succ i ih =>
      rcases ih with ⟨k, hk, h⟩ | h
      · exact Or.inl ⟨k, by omega, h⟩
      · by_cases hst : ∀ j, rch n A s v (i + 1) j = rch n A s v i j
        · exact Or.inl ⟨i, by omega, hst⟩
        · right
          obtain ⟨j, hj⟩ := Classical.not_forall.mp hst
          have h1 : rch n A s v i j = false := by
            cases hb : rch n A s v i j with
            | false => rfl
            | true => exact absurd (by rw [hb, rch_mono i j hb]) hj
          have h2 : rch n A s v (i + 1) j = true := by
            cases hb : rch n A s v (i + 1) j with
            | true => rfl
            | false => exact absurd (by rw [hb, h1]) hj
          have := cnt_sublt (p := rch n A s v i) (q := rch n A s v (i + 1)) (n := n) (i := j) (fun j _ => rch_mono i j) (rch_lt hv hs _ _ h2) h1 h2
          omega
  rcases key n with ⟨k, hk, h⟩ | h
  · have e1 := rch_stay h (n + 1 - k) j
    have e2 := rch_stay h (n - k) j
    rw [show k + (n + 1 - k) = n + 1 by omega] at e1
    rw [show k + (n - k) = n by omega] at e2
    rw [e1, e2]
  · have := cnt_le (rch n A s v n) n
    omega
/-- within the t-th sweep, before a and b are looked at -/
def swI (n : Nat) (A : Nat → Nat → Bool) (s : Nat → Bool) (v t a b : Nat) (sp : Nat → Bool) : Prop := (∀ j, sp j = true → rch n A s v n j = true) ∧ (∀ j, rch n A s v t j = true → sp j = true) ∧ (∀ i j, (i < a ∨ (i = a ∧ j < b)) → rch n A s v t i = true → A i j = true → s j = true → sp j = true)
theorem swI.step {t a b : Nat} {sp : Nat → Bool} (hv : v < n) (hs : ∀ j, s j = true → j < n) (h : swI n A s v t a b sp) (ha : a < n) : swI n A s v t a (b + 1) (fun j => sp j || (decide (j = b) && (sp a && (A a b && s b)))) := by
  refine ⟨fun j hj => ?_, fun j hj => ?_, fun i j hij hi hA hj => ?_⟩
  · simp only [Bool.or_eq_true, Bool.and_eq_true, decide_eq_true_eq] at hj
    rcases hj with hj | ⟨rfl, h1, h2, h3⟩
    · exact h.1 j hj
    · rw [← rch_closed hv hs]
      show (rch n A s v n j || (nbO n A (rch n A s v n) j && s j)) = true
      rw [show nbO n A (rch n A s v n) j = true from ex_iff.mpr ⟨a, ha, by rw [h.1 a h1, h2]; rfl⟩, h3]
      simp
  · show (sp j || _) = true
    rw [h.2.1 j hj]; rfl
  · show (sp j || _) = true
    by_cases hb : i = a ∧ j = b
    · obtain ⟨rfl, rfl⟩ := hb
      rw [h.2.1 i hi, hA, hj]; simp
    · rw [h.2.2 i j (by omega) hi hA hj]; rfl
theorem swI.row {t a : Nat} {sp : Nat → Bool} (hs : ∀ j, s j = true → j < n) (h : swI n A s v t a n sp) : swI n A s v t (a + 1) 0 sp := by
  refine ⟨h.1, h.2.1, fun i j hij hi hA hj => h.2.2 i j ?_ hi hA hj⟩
  have := hs j hj
  omega
theorem swI.sweep {t : Nat} {sp : Nat → Bool} (h : swI n A s v t n 0 sp) : swI n A s v (t + 1) 0 0 sp := by
  refine ⟨h.1, fun j hj => ?_, fun i j hij => by omega⟩
  have hj' : (rch n A s v t j || (nbO n A (rch n A s v t) j && s j)) = true := hj
  rw [Bool.or_eq_true, Bool.and_eq_true] at hj'
  rcases hj' with h1 | ⟨h1, h2⟩
  · exact h.2.1 j h1
  · obtain ⟨i, hi, h3⟩ := ex_iff.mp h1
    rw [Bool.and_eq_true] at h3
    exact h.2.2 i j (Or.inl hi) h3.1 h3.2 h2
theorem swI.end {sp : Nat → Bool} (h : swI n A s v n 0 0 sp) : sp = rch n A s v n := by
  funext j
  cases h1 : sp j with
  | true => exact (h.1 j h1).symm
  | false =>
    cases h2 : rch n A s v n j with
    | false => rfl
    | true => rw [h.2.1 j h2] at h1; cases h1
end
section
variable (σ : tSt) (x : Nat → aC) (N : tG) (Q : tQ) (F : tF) (W L T : tW) (V : tM) (P : fI)
set_option maxHeartbeats 2000000 in
theorem q_chain (h : rSt σ N L T V P) (y z : Int32) : aRet 3 0 0 mX8_chain [.ref 24, .int y, .int z] (rp x N Q F W L T V P) (rQ (spChain y z σ) x) := by
  have hh := h
  obtain ⟨h1, h2, h3, h4, h5⟩ := h
  have hn := h1.1
  obtain ⟨g1, nr, ot⟩ := N
  obtain rfl : g1 = nI σ.1 := h2.1
  obtain ⟨cf, sf⟩ := Q
  refine aRet.of (by decide) (Nat.le_of_ble_eq_true rfl) (a_ok2 rfl) ?_
  refine g_aload_n (i := 0) (pc1 := 1) dX8_chain_0 rfl rfl rfl ?_
  refine g_iload_n (i := 1) (pc1 := 2) dX8_chain_1 rfl rfl rfl ?_
  refine g_V1 (M := mX8_isVertex) (pc1 := 5) dX8_chain_2 rfl lkX8_58 tmX8_isVertex rfl (r_isVertex x σ.1 nr ot (cf, sf) F W L T V P y) (Nat.le_of_ble_eq_true rfl) rfl (Nat.le_of_ble_eq_true rfl) (Nat.le_of_ble_eq_true rfl) ?_
  rintro _ _ ⟨rfl, rfl⟩
  refine g_if_eq (pc1 := 8) (tgt := 38) dX8_chain_5 rfl (by decide) (fun c1 => ?_) (fun c1 => ?_)
  · rw [bI_eq0] at c1
    refine g_iconst (v := (-1)) (pc1 := 39) dX8_chain_38 rfl (by decide) ?_
    refine g_iret dX8_chain_39 rfl rfl (Nat.le_of_ble_eq_true rfl) (Nat.le_of_ble_eq_true rfl) ?_
    exact rQ.mk (by unfold spChain; rw [if_neg (fun q => by rw [c1] at q; cases q.1)]) hh
  · rw [bI_ne0] at c1
    obtain ⟨u, hu, rfl⟩ := (vtx_iff hn).mp c1
    have hcl : (nI u).toNatClampNeg = u := nI_clamp (by omega)
    refine g_aload_n (i := 0) (pc1 := 9) dX8_chain_8 rfl rfl rfl ?_
    refine g_get (pc1 := 12) dX8_chain_9 rfl flX8_23 rfl rfl ?_
    refine g_iload_n (i := 1) (pc1 := 13) dX8_chain_12 rfl rfl rfl ?_
    refine g_ialdJ (pc1 := 14) dX8_chain_13 rfl rfl rfl (by omega) (by decide) ?_
    refine g_iconst (v := (-1)) (pc1 := 15) dX8_chain_14 rfl (by decide) ?_
    rw [(h5 u (by omega)).1]
    cases hpu : σ.2.2.2.2 u with
    | none =>
      refine g_icmp_eq (pc1 := 18) (tgt := 38) dX8_chain_15 rfl (by decide) (fun _ => ?_) (fun hbr9 => absurd rfl hbr9)
      refine g_iconst (v := (-1)) (pc1 := 39) dX8_chain_38 rfl (by decide) ?_
      refine g_iret dX8_chain_39 rfl rfl (Nat.le_of_ble_eq_true rfl) (Nat.le_of_ble_eq_true rfl) ?_
      refine rQ.mk ?_ hh
      unfold spChain
      rw [hcl, hpu]
      split <;> rfl
    | some c0 =>
      have hc0 := (h5 u (by omega)).2 c0 hpu
      have hne : ¬ enO (some c0) = -1 := fun q => absurd (show nI c0 ≤ -1 by rw [show nI c0 = -1 from q]; exact Int32.le_refl _) (nI_m1_lt (by omega))
      refine g_icmp_eq (pc1 := 18) (tgt := 38) dX8_chain_15 rfl (by decide) (fun hbr9 => absurd hbr9 hne) (fun _ => ?_)
      refine g_aload_n (i := 0) (pc1 := 19) dX8_chain_18 rfl rfl rfl ?_
      refine g_get (pc1 := 22) dX8_chain_19 rfl flX8_23 rfl rfl ?_
      refine g_iload_n (i := 1) (pc1 := 23) dX8_chain_22 rfl rfl rfl ?_
      refine g_ialdJ (pc1 := 24) dX8_chain_23 rfl rfl rfl (by omega) (by decide) ?_
      refine g_iload_n (i := 2) (pc1 := 25) dX8_chain_24 rfl rfl rfl ?_
      have hPu : P u = nI c0 := by rw [(h5 u (by omega)).1, hpu]; rfl
      rw [hPu]
      refine g_icmp_eq (pc1 := 28) (tgt := 38) dX8_chain_25 rfl (by decide) (fun c4 => ?_) (fun c4 => ?_)
      · refine g_iconst (v := (-1)) (pc1 := 39) dX8_chain_38 rfl (by decide) ?_
        refine g_iret dX8_chain_39 rfl rfl (Nat.le_of_ble_eq_true rfl) (Nat.le_of_ble_eq_true rfl) ?_
        refine rQ.mk ?_ hh
        unfold spChain
        rw [hcl, hpu, ← c4, nI_clamp (by omega)]
        simp only [if_true]
        split <;> rfl
      · refine g_iload_n (i := 2) (pc1 := 29) dX8_chain_28 rfl rfl rfl ?_
        refine g_if_lt (pc1 := 32) (tgt := 38) dX8_chain_29 rfl (by decide) (fun c5 => ?_) (fun c5 => ?_)
        · refine g_iconst (v := (-1)) (pc1 := 39) dX8_chain_38 rfl (by decide) ?_
          refine g_iret dX8_chain_39 rfl rfl (Nat.le_of_ble_eq_true rfl) (Nat.le_of_ble_eq_true rfl) ?_
          exact rQ.mk (by unfold spChain; rw [if_neg (fun q => absurd c5 (Int32.not_lt.mpr (of_decide_eq_true q.2).1))]) hh
        · refine g_iload_n (i := 2) (pc1 := 33) dX8_chain_32 rfl rfl rfl ?_
          refine g_bipush (v := 29) (pc1 := 35) dX8_chain_33 rfl (by decide) ?_
          refine g_icmp_le (pc1 := 38) (tgt := 40) dX8_chain_35 rfl (by decide) (fun c6 => ?_) (fun c6 => ?_)
          · obtain ⟨d, hd, rfl⟩ := i_le (m := 29) (by decide) c5 c6
            have hco : colOk (nI d) = true := decide_eq_true ((hol_iff (m := 30) (by omega)).mpr ⟨d, by omega, rfl⟩)
            have hcd : ¬ c0 = d := fun q => c4 (by rw [q])
            have hsp : spChain (nI u) (nI d) σ = (nI (cnt (chS2 σ.1 σ.2.1 σ.2.2.2.2 u c0 d) 32), (σ.1, σ.2.1, σ.2.2.1, σ.2.2.2.1, chP σ.1 σ.2.1 σ.2.2.2.2 u c0 d)) := by
              unfold spChain; rw [if_pos ⟨c1, hco⟩, nI_clamp (by omega), nI_clamp (by omega), hpu]
              show (if c0 = d then _ else _) = _
              rw [if_neg hcd]
            rw [hsp]
            obtain ⟨s, hs⟩ : ∃ s : Nat → Bool, s = (fun j => brg σ.1 σ.2.2.2.2 c0 j || brg σ.1 σ.2.2.2.2 d j) := ⟨_, rfl⟩
            have hslt : ∀ j, s j = true → j < σ.1 := by
              intro j hj
              rw [hs] at hj
              simp only [brg, Bool.or_eq_true, Bool.and_eq_true, decide_eq_true_eq] at hj
              rcases hj with hj | hj <;> exact hj.1
            have hch : chS2 σ.1 σ.2.1 σ.2.2.2.2 u c0 d = rch σ.1 σ.2.1 s u σ.1 := by unfold chS2; rw [hs]
            have hclt : ∀ j, chS2 σ.1 σ.2.1 σ.2.2.2.2 u c0 d j = true → j < σ.1 := fun j hj => rch_lt hu hslt σ.1 j (by rw [← hch]; exact hj)
            refine g_aload_n (i := 0) (pc1 := 41) dX8_chain_40 rfl rfl rfl ?_
            refine g_get (pc1 := 44) dX8_chain_41 rfl flX8_23 rfl rfl ?_
            refine g_iload_n (i := 1) (pc1 := 45) dX8_chain_44 rfl rfl rfl ?_
            refine g_ialdJ (pc1 := 46) dX8_chain_45 rfl rfl rfl (by omega) (by decide) ?_
            refine g_istore_n (i := 3) (pc1 := 47) dX8_chain_46 rfl rfl (Nat.le_of_ble_eq_true rfl) ?_
            refine g_aload_n (i := 0) (pc1 := 48) dX8_chain_47 rfl rfl rfl ?_
            rw [hPu]
            refine g_V0 (M := mX8_clearSeen) (pc1 := 51) dX8_chain_48 rfl lkX8_93 tmX8_clearSeen rfl (r_clearSeen x cf sf F W L T V P (nI σ.1, nr, ot)) (Nat.le_of_ble_eq_true rfl) rfl (Nat.le_of_ble_eq_true rfl) (Nat.le_of_ble_eq_true rfl) ?_
            rintro _ _ ⟨rfl, rfl⟩
            show aGo _ 51 _ [] _ _ _
            have hs0 : rS (fil 30 0 sf) (fun _ => false) := fun v hv => by simp [fil, hv, bI]
            have hs1 := rS_ins hs0 u
            refine g_aload_n (i := 0) (pc1 := 52) dX8_chain_51 rfl rfl rfl ?_
            refine g_get (pc1 := 55) dX8_chain_52 rfl flX8_47 rfl rfl ?_
            refine g_iload_n (i := 1) (pc1 := 56) dX8_chain_55 rfl rfl rfl ?_
            refine g_iconst (v := 1) (pc1 := 57) dX8_chain_56 rfl (by decide) ?_
            refine g_zastJ (pc1 := 58) dX8_chain_57 rfl rfl rfl (by omega) (by decide) (by decide) ?_
            refine g_iconst (v := 0) (pc1 := 59) dX8_chain_58 rfl (by decide) ?_
            refine g_istore (pc1 := 61) dX8_chain_59 rfl (Nat.le_of_ble_eq_true rfl) ?_
            -- the last loop: the chain's colours are swapped
            have swap : ∀ sf : fI, rS sf (chS2 σ.1 σ.2.1 σ.2.2.2.2 u c0 d) → aGo (3, 0, 0, mX8_chain, none, rQ (nI (cnt (chS2 σ.1 σ.2.1 σ.2.2.2.2 u c0 d) 32), (σ.1, σ.2.1, σ.2.2.1, σ.2.2.2.1, chP σ.1 σ.2.1 σ.2.2.2.2 u c0 d)) x) 195 [.ref 24, .int (nI u), .int (nI d), .int (nI c0), .int (nI 0), .int (nI 0), .null, .null] [] (rp x (nI σ.1, nr, ot) (cf, sf) F W L T V P) 0 0 := by
              intro sf hsf
              have key : ∀ p : fI, pC p (fun w => if w < 0 ∧ chS2 σ.1 σ.2.1 σ.2.2.2.2 u c0 d w = true then (if σ.2.2.2.2 w = some c0 then some d else some c0) else σ.2.2.2.2 w) → aGo (3, 0, 0, mX8_chain, none, rQ (nI (cnt (chS2 σ.1 σ.2.1 σ.2.2.2.2 u c0 d) 32), (σ.1, σ.2.1, σ.2.2.1, σ.2.2.2.1, chP σ.1 σ.2.1 σ.2.2.2.2 u c0 d)) x) 195 [.ref 24, .int (nI u), .int (nI d), .int (nI c0), .int (nI (cnt (chS2 σ.1 σ.2.1 σ.2.2.2.2 u c0 d) 0)), .int (nI 0), .null, .null] [] (rp x (nI σ.1, nr, ot) (cf, sf) F W L T V p) 0 0 := by
                refine down0 (P := fun a => ∀ p : fI, pC p (fun w => if w < a ∧ chS2 σ.1 σ.2.1 σ.2.2.2.2 u c0 d w = true then (if σ.2.2.2.2 w = some c0 then some d else some c0) else σ.2.2.2.2 w) → aGo _ 195 [.ref 24, .int (nI u), .int (nI d), .int (nI c0), .int (nI (cnt (chS2 σ.1 σ.2.1 σ.2.2.2.2 u c0 d) a)), .int (nI a), .null, .null] [] (rp x (nI σ.1, nr, ot) (cf, sf) F W L T V p) 0 0) σ.1 ?_ ?_
                · intro p hp
                  refine g_iload (pc1 := 197) dX8_chain_195 rfl rfl ?_
                  refine g_aload_n (i := 0) (pc1 := 198) dX8_chain_197 rfl rfl rfl ?_
                  refine g_get (pc1 := 201) dX8_chain_198 rfl flX8_50 rfl rfl ?_
                  refine g_icmp_ge (pc1 := 204) (tgt := 246) dX8_chain_201 rfl (by decide) (fun _ => ?_) (fun hbr9 => absurd (Int32.le_refl _) hbr9)
                  refine g_iload (pc1 := 248) dX8_chain_246 rfl rfl ?_
                  refine g_iret dX8_chain_248 rfl rfl (Nat.le_of_ble_eq_true rfl) (Nat.le_of_ble_eq_true rfl) ?_
                  refine rQ.mk ?_ (σ := (σ.1, σ.2.1, σ.2.2.1, σ.2.2.2.1, chP σ.1 σ.2.1 σ.2.2.2.2 u c0 d)) ⟨h1, h2, h3, h4, hp⟩
                  rw [cnt_more (show σ.1 ≤ 32 by omega) (fun i hi _ => by
                    cases hb : chS2 σ.1 σ.2.1 σ.2.2.2.2 u c0 d i with
                    | false => rfl
                    | true => have := hclt i hb; omega)]
                · intro a ha ih p hp
                  have e0 : cnt (chS2 σ.1 σ.2.1 σ.2.2.2.2 u c0 d) (a + 1) = cnt (chS2 σ.1 σ.2.1 σ.2.2.2.2 u c0 d) a + (if chS2 σ.1 σ.2.1 σ.2.2.2.2 u c0 d a then 1 else 0) := rfl
                  have hpa : p a = enO (σ.2.2.2.2 a) := by
                    have := (hp a (by omega)).1
                    simpa using this
                  refine g_iload (pc1 := 197) dX8_chain_195 rfl rfl ?_
                  refine g_aload_n (i := 0) (pc1 := 198) dX8_chain_197 rfl rfl rfl ?_
                  refine g_get (pc1 := 201) dX8_chain_198 rfl flX8_50 rfl rfl ?_
                  refine g_icmp_ge (pc1 := 204) (tgt := 246) dX8_chain_201 rfl (by decide) (fun hbr9 => absurd hbr9 (fun q => absurd ((nI_leI (a := σ.1) (b := a) (by omega) (by omega)).mp q) (by omega))) (fun _ => ?_)
                  refine g_aload_n (i := 0) (pc1 := 205) dX8_chain_204 rfl rfl rfl ?_
                  refine g_get (pc1 := 208) dX8_chain_205 rfl flX8_47 rfl rfl ?_
                  refine g_iload (pc1 := 210) dX8_chain_208 rfl rfl ?_
                  refine g_zaldJ (pc1 := 211) dX8_chain_210 rfl rfl rfl (by omega) (by decide) ?_
                  rw [show (cf, sf).2 a = bI (chS2 σ.1 σ.2.1 σ.2.2.2.2 u c0 d a) from hsf a (by omega)]
                  refine g_if_eq (pc1 := 214) (tgt := 240) dX8_chain_211 rfl (by decide) (fun c7 => ?_) (fun c7 => ?_)
                  · rw [bI_eq0] at c7
                    refine g_iinc (pc1 := 243) dX8_chain_240 rfl rfl rfl ?_
                    refine g_goto (tgt := 195) dX8_chain_243 (by decide) ?_
                    refine aGo.eq (ih p (fun w hw => ?_)) ?_ rfl rfl
                    · have hw1 := hp w hw
                      have e : (w < a + 1 ∧ chS2 σ.1 σ.2.1 σ.2.2.2.2 u c0 d w = true) ↔ (w < a ∧ chS2 σ.1 σ.2.1 σ.2.2.2.2 u c0 d w = true) := by
                        constructor
                        · rintro ⟨q1, q2⟩
                          refine ⟨?_, q2⟩
                          have : w ≠ a := fun q => by rw [q, c7] at q2; cases q2
                          omega
                        · rintro ⟨q1, q2⟩; exact ⟨by omega, q2⟩
                      simp only [e]
                      exact hw1
                    · show [Value.ref 24, .int (nI u), .int (nI d), .int (nI c0), .int (nI (cnt (chS2 σ.1 σ.2.1 σ.2.2.2.2 u c0 d) a)), .int (nI a + Int32.ofInt 1), .null, .null] = _
                      rw [show nI a + Int32.ofInt 1 = nI (a + 1) from nI_1 a, e0, c7]
                      rfl
                  · rw [bI_ne0] at c7
                    have fin : ∀ o : Option Nat, o = (if σ.2.2.2.2 a = some c0 then some d else some c0) → aGo (3, 0, 0, mX8_chain, none, rQ (nI (cnt (chS2 σ.1 σ.2.1 σ.2.2.2.2 u c0 d) 32), (σ.1, σ.2.1, σ.2.2.1, σ.2.2.2.1, chP σ.1 σ.2.1 σ.2.2.2.2 u c0 d)) x) 236 [.ref 24, .int (nI u), .int (nI d), .int (nI c0), .int (nI (cnt (chS2 σ.1 σ.2.1 σ.2.2.2.2 u c0 d) a)), .int (nI a), .null, .null] [.int (enO o), .int (nI a), .ref 29] (rp x (nI σ.1, nr, ot) (cf, sf) F W L T V p) 0 0 := by
                      intro o ho
                      refine g_iastJ (pc1 := 237) dX8_chain_236 rfl rfl rfl (by omega) (by decide) ?_
                      refine g_iinc (pc1 := 240) dX8_chain_237 rfl rfl rfl ?_
                      refine g_iinc (pc1 := 243) dX8_chain_240 rfl rfl rfl ?_
                      refine g_goto (tgt := 195) dX8_chain_243 (by decide) ?_
                      refine aGo.eq (ih (upd p a (enO o)) (fun w hw => ?_)) ?_ rfl rfl
                      · by_cases hwa : w = a
                        · subst hwa
                          rw [pk_us]
                          simp only [show w < w + 1 from Nat.lt_succ_self w, c7, and_self, if_true]
                          rw [← ho]
                          refine ⟨rfl, fun e q => ?_⟩
                          rw [ho] at q
                          split at q
                          · cases q; omega
                          · cases q; exact hc0
                        · rw [pk_un hwa]
                          have hw1 := hp w hw
                          have e : (w < a + 1) ↔ (w < a) := by omega
                          simp only [e]
                          exact hw1
                      · show [Value.ref 24, .int (nI u), .int (nI d), .int (nI c0), .int (nI (cnt (chS2 σ.1 σ.2.1 σ.2.2.2.2 u c0 d) a) + Int32.ofInt 1), .int (nI a + Int32.ofInt 1), .null, .null] = _
                        rw [show nI a + Int32.ofInt 1 = nI (a + 1) from nI_1 a, show nI (cnt (chS2 σ.1 σ.2.1 σ.2.2.2.2 u c0 d) a) + Int32.ofInt 1 = nI (cnt (chS2 σ.1 σ.2.1 σ.2.2.2.2 u c0 d) a + 1) from nI_1 _, e0, c7]
                        rfl
                    refine g_aload_n (i := 0) (pc1 := 215) dX8_chain_214 rfl rfl rfl ?_
                    refine g_get (pc1 := 218) dX8_chain_215 rfl flX8_23 rfl rfl ?_
                    refine g_iload (pc1 := 220) dX8_chain_218 rfl rfl ?_
                    refine g_aload_n (i := 0) (pc1 := 221) dX8_chain_220 rfl rfl rfl ?_
                    refine g_get (pc1 := 224) dX8_chain_221 rfl flX8_23 rfl rfl ?_
                    refine g_iload (pc1 := 226) dX8_chain_224 rfl rfl ?_
                    refine g_ialdJ (pc1 := 227) dX8_chain_226 rfl rfl rfl (by omega) (by decide) ?_
                    refine g_iload_n (i := 3) (pc1 := 228) dX8_chain_227 rfl rfl rfl ?_
                    rw [hpa]
                    have hi : enO (σ.2.2.2.2 a) = nI c0 ↔ σ.2.2.2.2 a = some c0 := enO_inj (b := some c0) (h5 a (by omega)).2 (c_some hc0)
                    refine g_icmp_ne (pc1 := 231) (tgt := 235) dX8_chain_228 rfl (by decide) (fun c8 => ?_) (fun c8 => ?_)
                    · refine g_iload_n (i := 3) (pc1 := 236) dX8_chain_235 rfl rfl rfl ?_
                      exact fin (some c0) (by rw [if_neg (fun q => c8 (hi.mpr q))])
                    · refine g_iload_n (i := 2) (pc1 := 232) dX8_chain_231 rfl rfl rfl ?_
                      refine g_goto (tgt := 236) dX8_chain_232 (by decide) ?_
                      exact fin (some d) (by rw [if_pos (hi.mp c8)])
              refine key P (fun w hw => ?_)
              simp only [Nat.not_lt_zero, false_and, if_false]
              exact h5 w hw
            -- the sweeps
            have sweep : ∀ (sf : fI) (sp : Nat → Bool), rS sf sp → swI σ.1 σ.2.1 s u 0 0 0 sp → aGo (3, 0, 0, mX8_chain, none, rQ (nI (cnt (chS2 σ.1 σ.2.1 σ.2.2.2.2 u c0 d) 32), (σ.1, σ.2.1, σ.2.2.1, σ.2.2.2.1, chP σ.1 σ.2.1 σ.2.2.2.2 u c0 d)) x) 61 [.ref 24, .int (nI u), .int (nI d), .int (nI c0), .int (nI 0), .null, .null, .null] [] (rp x (nI σ.1, nr, ot) (cf, sf) F W L T V P) 0 0 := by
              refine down0 (P := fun t => ∀ (sf : fI) (sp : Nat → Bool), rS sf sp → swI σ.1 σ.2.1 s u t 0 0 sp → aGo _ 61 [.ref 24, .int (nI u), .int (nI d), .int (nI c0), .int (nI t), .null, .null, .null] [] (rp x (nI σ.1, nr, ot) (cf, sf) F W L T V P) 0 0) σ.1 ?_ ?_
              · intro sf sp hsf hI
                rw [hI.end, ← hch] at hsf
                refine g_iload (pc1 := 63) dX8_chain_61 rfl rfl ?_
                refine g_aload_n (i := 0) (pc1 := 64) dX8_chain_63 rfl rfl rfl ?_
                refine g_get (pc1 := 67) dX8_chain_64 rfl flX8_50 rfl rfl ?_
                refine g_icmp_ge (pc1 := 70) (tgt := 189) dX8_chain_67 rfl (by decide) (fun _ => ?_) (fun hbr9 => absurd (Int32.le_refl _) hbr9)
                refine g_iconst (v := 0) (pc1 := 190) dX8_chain_189 rfl (by decide) ?_
                refine g_istore (pc1 := 192) dX8_chain_190 rfl (Nat.le_of_ble_eq_true rfl) ?_
                refine g_iconst (v := 0) (pc1 := 193) dX8_chain_192 rfl (by decide) ?_
                refine g_istore (pc1 := 195) dX8_chain_193 rfl (Nat.le_of_ble_eq_true rfl) ?_
                exact swap sf hsf
              · intro t ht iht sf sp hsf hI
                refine g_iload (pc1 := 63) dX8_chain_61 rfl rfl ?_
                refine g_aload_n (i := 0) (pc1 := 64) dX8_chain_63 rfl rfl rfl ?_
                refine g_get (pc1 := 67) dX8_chain_64 rfl flX8_50 rfl rfl ?_
                refine g_icmp_ge (pc1 := 70) (tgt := 189) dX8_chain_67 rfl (by decide) (fun hbr9 => absurd hbr9 (fun q => absurd ((nI_leI (a := σ.1) (b := t) (by omega) (by omega)).mp q) (by omega))) (fun _ => ?_)
                refine g_iconst (v := 0) (pc1 := 71) dX8_chain_70 rfl (by decide) ?_
                refine g_istore (pc1 := 73) dX8_chain_71 rfl (Nat.le_of_ble_eq_true rfl) ?_
                have keyA : ∀ (sf : fI) (sp : Nat → Bool), rS sf sp → swI σ.1 σ.2.1 s u t 0 0 sp → aGo (3, 0, 0, mX8_chain, none, rQ (nI (cnt (chS2 σ.1 σ.2.1 σ.2.2.2.2 u c0 d) 32), (σ.1, σ.2.1, σ.2.2.1, σ.2.2.2.1, chP σ.1 σ.2.1 σ.2.2.2.2 u c0 d)) x) 73 [.ref 24, .int (nI u), .int (nI d), .int (nI c0), .int (nI t), .int (nI 0), .null, .null] [] (rp x (nI σ.1, nr, ot) (cf, sf) F W L T V P) 0 0 := by
                  refine down0 (P := fun a => ∀ (sf : fI) (sp : Nat → Bool), rS sf sp → swI σ.1 σ.2.1 s u t a 0 sp → aGo _ 73 [.ref 24, .int (nI u), .int (nI d), .int (nI c0), .int (nI t), .int (nI a), .null, .null] [] (rp x (nI σ.1, nr, ot) (cf, sf) F W L T V P) 0 0) σ.1 ?_ ?_
                  · intro sf sp hsf hI
                    refine g_iload (pc1 := 75) dX8_chain_73 rfl rfl ?_
                    refine g_aload_n (i := 0) (pc1 := 76) dX8_chain_75 rfl rfl rfl ?_
                    refine g_get (pc1 := 79) dX8_chain_76 rfl flX8_50 rfl rfl ?_
                    refine g_icmp_ge (pc1 := 82) (tgt := 183) dX8_chain_79 rfl (by decide) (fun _ => ?_) (fun hbr9 => absurd (Int32.le_refl _) hbr9)
                    refine g_iinc (pc1 := 186) dX8_chain_183 rfl rfl rfl ?_
                    refine g_goto (tgt := 61) dX8_chain_186 (by decide) ?_
                    refine aGo.forget 5 ?_
                    refine aGo.eq (iht sf sp hsf hI.sweep) ?_ rfl rfl
                    show [Value.ref 24, .int (nI u), .int (nI d), .int (nI c0), .int (nI t + Int32.ofInt 1), .null, .null, .null] = _
                    rw [show nI t + Int32.ofInt 1 = nI (t + 1) from nI_1 t]
                  · intro a ha iha sf sp hsf hI
                    refine g_iload (pc1 := 75) dX8_chain_73 rfl rfl ?_
                    refine g_aload_n (i := 0) (pc1 := 76) dX8_chain_75 rfl rfl rfl ?_
                    refine g_get (pc1 := 79) dX8_chain_76 rfl flX8_50 rfl rfl ?_
                    refine g_icmp_ge (pc1 := 82) (tgt := 183) dX8_chain_79 rfl (by decide) (fun hbr9 => absurd hbr9 (fun q => absurd ((nI_leI (a := σ.1) (b := a) (by omega) (by omega)).mp q) (by omega))) (fun _ => ?_)
                    refine g_iconst (v := 0) (pc1 := 83) dX8_chain_82 rfl (by decide) ?_
                    refine g_istore (pc1 := 85) dX8_chain_83 rfl (Nat.le_of_ble_eq_true rfl) ?_
                    have keyB : ∀ (sf : fI) (sp : Nat → Bool), rS sf sp → swI σ.1 σ.2.1 s u t a 0 sp → aGo (3, 0, 0, mX8_chain, none, rQ (nI (cnt (chS2 σ.1 σ.2.1 σ.2.2.2.2 u c0 d) 32), (σ.1, σ.2.1, σ.2.2.1, σ.2.2.2.1, chP σ.1 σ.2.1 σ.2.2.2.2 u c0 d)) x) 85 [.ref 24, .int (nI u), .int (nI d), .int (nI c0), .int (nI t), .int (nI a), .int (nI 0), .null] [] (rp x (nI σ.1, nr, ot) (cf, sf) F W L T V P) 0 0 := by
                      refine down0 (P := fun b => ∀ (sf : fI) (sp : Nat → Bool), rS sf sp → swI σ.1 σ.2.1 s u t a b sp → aGo _ 85 [.ref 24, .int (nI u), .int (nI d), .int (nI c0), .int (nI t), .int (nI a), .int (nI b), .null] [] (rp x (nI σ.1, nr, ot) (cf, sf) F W L T V P) 0 0) σ.1 ?_ ?_
                      · intro sf sp hsf hI
                        refine g_iload (pc1 := 87) dX8_chain_85 rfl rfl ?_
                        refine g_aload_n (i := 0) (pc1 := 88) dX8_chain_87 rfl rfl rfl ?_
                        refine g_get (pc1 := 91) dX8_chain_88 rfl flX8_50 rfl rfl ?_
                        refine g_icmp_ge (pc1 := 94) (tgt := 177) dX8_chain_91 rfl (by decide) (fun _ => ?_) (fun hbr9 => absurd (Int32.le_refl _) hbr9)
                        refine g_iinc (pc1 := 180) dX8_chain_177 rfl rfl rfl ?_
                        refine g_goto (tgt := 73) dX8_chain_180 (by decide) ?_
                        refine aGo.forget 6 ?_
                        refine aGo.eq (iha sf sp hsf (hI.row hslt)) ?_ rfl rfl
                        show [Value.ref 24, .int (nI u), .int (nI d), .int (nI c0), .int (nI t), .int (nI a + Int32.ofInt 1), .null, .null] = _
                        rw [show nI a + Int32.ofInt 1 = nI (a + 1) from nI_1 a]
                      · intro b hb ihb sf sp hsf hI
                        have hI' := hI.step hu hslt ha
                        have hsb : s b = (decide (σ.2.2.2.2 b = some c0) || decide (σ.2.2.2.2 b = some d)) := by
                          rw [hs]; simp [brg, hb]
                        refine g_iload (pc1 := 87) dX8_chain_85 rfl rfl ?_
                        refine g_aload_n (i := 0) (pc1 := 88) dX8_chain_87 rfl rfl rfl ?_
                        refine g_get (pc1 := 91) dX8_chain_88 rfl flX8_50 rfl rfl ?_
                        refine g_icmp_ge (pc1 := 94) (tgt := 177) dX8_chain_91 rfl (by decide) (fun hbr9 => absurd hbr9 (fun q => absurd ((nI_leI (a := σ.1) (b := b) (by omega) (by omega)).mp q) (by omega))) (fun _ => ?_)
                        have fin2 : ∀ (k : Int32) (o : Bool), o = (sp b || (sp a && (σ.2.1 a b && s b))) → aGo (3, 0, 0, mX8_chain, none, rQ (nI (cnt (chS2 σ.1 σ.2.1 σ.2.2.2.2 u c0 d) 32), (σ.1, σ.2.1, σ.2.2.1, σ.2.2.2.1, chP σ.1 σ.2.1 σ.2.2.2.2 u c0 d)) x) 170 [.ref 24, .int (nI u), .int (nI d), .int (nI c0), .int (nI t), .int (nI a), .int (nI b), .int k] [.int (bI o), .int (nI b), .ref 37] (rp x (nI σ.1, nr, ot) (cf, sf) F W L T V P) 0 0 := by
                          intro k o ho
                          refine g_zastJ (pc1 := 171) dX8_chain_170 rfl rfl rfl (by omega) (by decide) (bI_1 _) ?_
                          refine g_iinc (pc1 := 174) dX8_chain_171 rfl rfl rfl ?_
                          refine g_goto (tgt := 85) dX8_chain_174 (by decide) ?_
                          refine aGo.forget 7 ?_
                          refine aGo.eq (ihb (upd sf b (bI o)) _ (fun w hw => ?_) hI') ?_ rfl rfl
                          · show upd sf b (bI o) w = bI (sp w || (decide (w = b) && (sp a && (σ.2.1 a b && s b))))
                            by_cases e : w = b
                            · subst e; rw [pk_us, ho]; simp
                            · rw [pk_un e, hsf w hw]; simp [e]
                          · show [Value.ref 24, .int (nI u), .int (nI d), .int (nI c0), .int (nI t), .int (nI a), .int (nI b + Int32.ofInt 1), .null] = _
                            rw [show nI b + Int32.ofInt 1 = nI (b + 1) from nI_1 b]
                        have fin : ∀ o : Bool, o = (sp a && (σ.2.1 a b && s b)) → aGo (3, 0, 0, mX8_chain, none, rQ (nI (cnt (chS2 σ.1 σ.2.1 σ.2.2.2.2 u c0 d) 32), (σ.1, σ.2.1, σ.2.2.1, σ.2.2.2.1, chP σ.1 σ.2.1 σ.2.2.2.2 u c0 d)) x) 142 [.ref 24, .int (nI u), .int (nI d), .int (nI c0), .int (nI t), .int (nI a), .int (nI b), .null] [.int (bI o)] (rp x (nI σ.1, nr, ot) (cf, sf) F W L T V P) 0 0 := by
                          intro o ho
                          refine g_istore (pc1 := 144) dX8_chain_142 rfl (Nat.le_of_ble_eq_true rfl) ?_
                          refine g_aload_n (i := 0) (pc1 := 145) dX8_chain_144 rfl rfl rfl ?_
                          refine g_get (pc1 := 148) dX8_chain_145 rfl flX8_47 rfl rfl ?_
                          refine g_iload (pc1 := 150) dX8_chain_148 rfl rfl ?_
                          refine g_aload_n (i := 0) (pc1 := 151) dX8_chain_150 rfl rfl rfl ?_
                          refine g_get (pc1 := 154) dX8_chain_151 rfl flX8_47 rfl rfl ?_
                          refine g_iload (pc1 := 156) dX8_chain_154 rfl rfl ?_
                          refine g_zaldJ (pc1 := 157) dX8_chain_156 rfl rfl rfl (by omega) (by decide) ?_
                          rw [show (cf, sf).2 b = bI (sp b) from hsf b (by omega)]
                          refine g_if_ne (pc1 := 160) (tgt := 165) dX8_chain_157 rfl (by decide) (fun d1 => ?_) (fun d1 => ?_)
                          · rw [bI_ne0] at d1
                            refine g_iconst (v := 1) (pc1 := 166) dX8_chain_165 rfl (by decide) ?_
                            refine g_goto (tgt := 170) dX8_chain_166 (by decide) ?_
                            exact fin2 _ true (by rw [d1]; rfl)
                          · have d1' : sp b = false := by
                              cases hx : sp b with
                              | false => rfl
                              | true => exact absurd d1 ((bI_ne0 _).mpr hx)
                            refine g_iload (pc1 := 162) dX8_chain_160 rfl rfl ?_
                            refine g_if_eq (pc1 := 165) (tgt := 169) dX8_chain_162 rfl (by decide) (fun d2 => ?_) (fun d2 => ?_)
                            · rw [bI_eq0] at d2
                              refine g_iconst (v := 0) (pc1 := 170) dX8_chain_169 rfl (by decide) ?_
                              exact fin2 _ false (by rw [d1', ← ho, d2]; rfl)
                            · rw [bI_ne0] at d2
                              refine g_iconst (v := 1) (pc1 := 166) dX8_chain_165 rfl (by decide) ?_
                              refine g_goto (tgt := 170) dX8_chain_166 (by decide) ?_
                              exact fin2 _ true (by rw [d1', ← ho, d2]; rfl)
                        refine g_aload_n (i := 0) (pc1 := 95) dX8_chain_94 rfl rfl rfl ?_
                        refine g_get (pc1 := 98) dX8_chain_95 rfl flX8_47 rfl rfl ?_
                        refine g_iload (pc1 := 100) dX8_chain_98 rfl rfl ?_
                        refine g_zaldJ (pc1 := 101) dX8_chain_100 rfl rfl rfl (by omega) (by decide) ?_
                        rw [show (cf, sf).2 a = bI (sp a) from hsf a (by omega)]
                        refine g_if_eq (pc1 := 104) (tgt := 141) dX8_chain_101 rfl (by decide) (fun e1 => ?_) (fun e1 => ?_)
                        · rw [bI_eq0] at e1
                          refine g_iconst (v := 0) (pc1 := 142) dX8_chain_141 rfl (by decide) ?_
                          exact fin false (by rw [e1]; rfl)
                        · rw [bI_ne0] at e1
                          refine g_aload_n (i := 0) (pc1 := 105) dX8_chain_104 rfl rfl rfl ?_
                          refine g_iload (pc1 := 107) dX8_chain_105 rfl rfl ?_
                          refine g_iload (pc1 := 109) dX8_chain_107 rfl rfl ?_
                          refine g_V2 (M := mX8_isNear) (pc1 := 112) dX8_chain_109 rfl lkX8_62 tmX8_isNear rfl (r_isNear x σ.1 nr ot (cf, sf) F W L T V P h2 (a := a) (b := b) (by omega) (by omega)) (Nat.le_of_ble_eq_true rfl) rfl (Nat.le_of_ble_eq_true rfl) (Nat.le_of_ble_eq_true rfl) ?_
                          rintro _ _ ⟨rfl, rfl⟩
                          refine g_if_eq (pc1 := 115) (tgt := 141) dX8_chain_112 rfl (by decide) (fun e2 => ?_) (fun e2 => ?_)
                          · rw [bI_eq0] at e2
                            refine g_iconst (v := 0) (pc1 := 142) dX8_chain_141 rfl (by decide) ?_
                            exact fin false (by rw [e1, e2]; rfl)
                          · rw [bI_ne0] at e2
                            have hi0 := h5.inj (v := b) (by omega) (c_some hc0)
                            have hid := h5.inj (v := b) (by omega) (c_some (c := d) (by omega))
                            refine g_aload_n (i := 0) (pc1 := 116) dX8_chain_115 rfl rfl rfl ?_
                            refine g_get (pc1 := 119) dX8_chain_116 rfl flX8_23 rfl rfl ?_
                            refine g_iload (pc1 := 121) dX8_chain_119 rfl rfl ?_
                            refine g_ialdJ (pc1 := 122) dX8_chain_121 rfl rfl rfl (by omega) (by decide) ?_
                            refine g_iload_n (i := 3) (pc1 := 123) dX8_chain_122 rfl rfl rfl ?_
                            refine g_icmp_eq (pc1 := 126) (tgt := 137) dX8_chain_123 rfl (by decide) (fun e3 => ?_) (fun e3 => ?_)
                            · refine g_iconst (v := 1) (pc1 := 138) dX8_chain_137 rfl (by decide) ?_
                              refine g_goto (tgt := 142) dX8_chain_138 (by decide) ?_
                              exact fin true (by rw [e1, e2, hsb, decide_eq_true (hi0.mp e3)]; rfl)
                            · refine g_aload_n (i := 0) (pc1 := 127) dX8_chain_126 rfl rfl rfl ?_
                              refine g_get (pc1 := 130) dX8_chain_127 rfl flX8_23 rfl rfl ?_
                              refine g_iload (pc1 := 132) dX8_chain_130 rfl rfl ?_
                              refine g_ialdJ (pc1 := 133) dX8_chain_132 rfl rfl rfl (by omega) (by decide) ?_
                              refine g_iload_n (i := 2) (pc1 := 134) dX8_chain_133 rfl rfl rfl ?_
                              refine g_icmp_ne (pc1 := 137) (tgt := 141) dX8_chain_134 rfl (by decide) (fun e4 => ?_) (fun e4 => ?_)
                              · refine g_iconst (v := 0) (pc1 := 142) dX8_chain_141 rfl (by decide) ?_
                                exact fin false (by rw [e1, e2, hsb, decide_eq_false (fun q => e3 (hi0.mpr q)), decide_eq_false (fun q => e4 (hid.mpr q))]; rfl)
                              · refine g_iconst (v := 1) (pc1 := 138) dX8_chain_137 rfl (by decide) ?_
                                refine g_goto (tgt := 142) dX8_chain_138 (by decide) ?_
                                exact fin true (by rw [e1, e2, hsb, decide_eq_true (hid.mp e4)]; simp)
                    exact keyB sf sp hsf hI
                exact keyA sf sp hsf hI
            refine aGo.eq (sweep (upd (fil 30 0 sf) u 1) _ hs1 ⟨fun j hj => ?_, fun j hj => ?_, fun i j q => by omega⟩) rfl rfl rfl
            · have e : j = u := by simpa using hj
              subst e
              have : ∀ m, rch σ.1 σ.2.1 s j m j = true := by
                intro m
                induction m with
                | zero => show decide (j = j) = true; simp
                | succ m ih => exact rch_mono m j ih
              exact this _
            · have e : j = u := of_decide_eq_true hj
              subst e; simp
          · refine g_iconst (v := (-1)) (pc1 := 39) dX8_chain_38 rfl (by decide) ?_
            refine g_iret dX8_chain_39 rfl rfl (Nat.le_of_ble_eq_true rfl) (Nat.le_of_ble_eq_true rfl) ?_
            exact rQ.mk (by unfold spChain; rw [if_neg (fun q => by
              obtain ⟨d, hd, rfl⟩ := (hol_iff (m := 30) (by omega)).mp (of_decide_eq_true q.2)
              exact c6 ((nI_leI (a := d) (b := 29) (by omega) (by omega)).mpr (by omega)))]) hh
end
