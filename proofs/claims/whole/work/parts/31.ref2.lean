/-! ===== the reference: divisors, turning, counting; colourings ===== -/
theorem gcd_shd {n f : Nat} (hn : 0 < n) (hf : 1 ≤ f) : ex (shd n f) (f + 1) = decide (1 < Nat.gcd f n) := by
  have hp : 0 < Nat.gcd f n := Nat.gcd_pos_of_pos_right _ hn
  have h3 : Nat.gcd f n ∣ f := Nat.gcd_dvd_left _ _
  have h4 : Nat.gcd f n ∣ n := Nat.gcd_dvd_right _ _
  have h5 : Nat.gcd f n ≤ f := Nat.le_of_dvd (by omega) h3
  by_cases h : 1 < Nat.gcd f n
  · rw [decide_eq_true h]
    exact ex_iff.mpr ⟨Nat.gcd f n, by omega, by simp [shd, Nat.mod_eq_zero_of_dvd h3, Nat.mod_eq_zero_of_dvd h4]; omega⟩
  · rw [decide_eq_false h]
    refine ex_false.mpr fun d hd => ?_
    cases hs : shd n f d with
    | false => rfl
    | true =>
      simp only [shd, Bool.and_eq_true, decide_eq_true_eq] at hs
      have hdv : d ∣ Nat.gcd f n := Nat.dvd_gcd (Nat.dvd_of_mod_eq_zero hs.2.1) (Nat.dvd_of_mod_eq_zero hs.2.2)
      have := Nat.le_of_dvd hp hdv
      omega
theorem r_common {h : List aC} {a b : Nat} (ha : a ≤ 30) (hb : b ≤ 30) : aRet 0 0 0 mX8_common [.int (nI a), .int (nI b)] h (fun w g => w = some (.int (nI (Nat.gcd a b))) ∧ g = h) := by
  refine aRet.of (by decide) (Nat.le_of_ble_eq_true rfl) (a_ok2 rfl) ?_
  refine g_iload_n (i := 0) (pc1 := 1) dX8_common_0 rfl rfl rfl ?_
  refine g_istore_n (i := 2) (pc1 := 2) dX8_common_1 rfl rfl (Nat.le_of_ble_eq_true rfl) ?_
  refine g_iload_n (i := 1) (pc1 := 3) dX8_common_2 rfl rfl rfl ?_
  refine g_istore_n (i := 3) (pc1 := 4) dX8_common_3 rfl rfl (Nat.le_of_ble_eq_true rfl) ?_
  have key : ∀ m y, y ≤ m → ∀ z, z ≤ 30 → y ≤ 30 → Nat.gcd z y = Nat.gcd a b → aGo (0, 0, 0, mX8_common, none, fun w g => w = some (.int (nI (Nat.gcd a b))) ∧ g = h) 4 [.int (nI a), .int (nI b), .int (nI z), .int (nI y), .null] [] h 0 0 := by
    intro m
    induction m with
    | zero =>
      intro y hy z hz hy2 hg
      obtain rfl : y = 0 := Nat.le_zero.mp hy
      refine g_iload_n (i := 3) (pc1 := 5) dX8_common_4 rfl rfl rfl ?_
      refine g_if_eq (pc1 := 8) (tgt := 21) dX8_common_5 rfl (by decide) (fun _ => ?_) (fun c => absurd rfl c)
      refine g_iload_n (i := 2) (pc1 := 22) dX8_common_21 rfl rfl rfl ?_
      refine g_iret dX8_common_22 rfl rfl (Nat.le_of_ble_eq_true rfl) (Nat.le_of_ble_eq_true rfl) ?_
      rw [← hg, Nat.gcd_zero_right]
      exact ⟨rfl, rfl⟩
    | succ m ih =>
      intro y hy z hz hy2 hg
      by_cases hy0 : y = 0
      · subst hy0
        exact ih 0 (Nat.zero_le _) z hz hy2 hg
      · have hne : ¬ nI y = 0 := nI_ne0 (by omega) (by omega)
        refine g_iload_n (i := 3) (pc1 := 5) dX8_common_4 rfl rfl rfl ?_
        refine g_if_eq (pc1 := 8) (tgt := 21) dX8_common_5 rfl (by decide) (fun c => absurd c hne) (fun _ => ?_)
        refine g_iload_n (i := 2) (pc1 := 9) dX8_common_8 rfl rfl rfl ?_
        refine g_iload_n (i := 3) (pc1 := 10) dX8_common_9 rfl rfl rfl ?_
        refine g_irem (pc1 := 11) dX8_common_10 rfl hne ?_
        rw [pk_rem (by omega) (by omega) (by omega)]
        refine g_istore (pc1 := 13) dX8_common_11 rfl (Nat.le_of_ble_eq_true rfl) ?_
        refine g_iload_n (i := 3) (pc1 := 14) dX8_common_13 rfl rfl rfl ?_
        refine g_istore_n (i := 2) (pc1 := 15) dX8_common_14 rfl rfl (Nat.le_of_ble_eq_true rfl) ?_
        refine g_iload (pc1 := 17) dX8_common_15 rfl rfl ?_
        refine g_istore_n (i := 3) (pc1 := 18) dX8_common_17 rfl rfl (Nat.le_of_ble_eq_true rfl) ?_
        refine g_goto (tgt := 4) dX8_common_18 (by decide) ?_
        have hlt : z % y < y := Nat.mod_lt _ (by omega)
        refine aGo.forget 4 ?_
        refine aGo.eq (ih (z % y) (by omega) y hy2 (by omega) ?_) rfl rfl rfl
        rw [← hg, Nat.gcd_comm y, ← Nat.gcd_rec, Nat.gcd_comm]
  exact key b b (Nat.le_refl _) a ha hb rfl
section
variable (σ : tSt) (x : Nat → aC) (N : tG) (Q : tQ) (F : tF) (W L T : tW) (V : tM) (P : fI)
set_option maxHeartbeats 2000000 in
theorem q_turn (h : rSt σ N L T V P) (f s : Int32) : aRet 2 0 0 mX8_turn [.ref 24, .int f, .int s] (rp x N Q F W L T V P) (rQ (spTurn f s σ) x) := by
  have hh := h
  obtain ⟨h1, h2, h3, h4, h5⟩ := h
  have hn := h1.1
  obtain ⟨g1, nr, ot⟩ := N
  obtain rfl : g1 = nI σ.1 := h2.1
  have bad : spTurn f s σ = (-1, σ) → aGo (2, 0, 0, mX8_turn, none, rQ (spTurn f s σ) x) 42 [.ref 24, .int f, .int s, .null, .null, .null, .null] [] (rp x (nI σ.1, nr, ot) Q F W L T V P) 0 0 := by
    intro hb
    refine g_iconst (v := (-1)) (pc1 := 43) dX8_turn_42 rfl (by decide) ?_
    refine g_iret dX8_turn_43 rfl rfl (Nat.le_of_ble_eq_true rfl) (Nat.le_of_ble_eq_true rfl) ?_
    exact rQ.mk hb hh
  refine aRet.of (by decide) (Nat.le_of_ble_eq_true rfl) (a_ok2 rfl) ?_
  refine g_aload_n (i := 0) (pc1 := 1) dX8_turn_0 rfl rfl rfl ?_
  refine g_get (pc1 := 4) dX8_turn_1 rfl flX8_50 rfl rfl ?_
  refine g_if_eq (pc1 := 7) (tgt := 42) dX8_turn_4 rfl (by decide) (fun c0 => ?_) (fun c0 => ?_)
  · have hn0 : σ.1 = 0 := (nI_eq (a := σ.1) (b := 0) (by omega) (by omega)).mp c0
    refine bad ?_
    unfold spTurn
    rw [if_neg]
    rintro ⟨q, _⟩
    obtain ⟨v, hv, _⟩ := (vtx_iff hn).mp q
    omega
  · have hn0 : 0 < σ.1 := Nat.pos_of_ne_zero fun e => c0 (by show nI σ.1 = 0; rw [e]; rfl)
    refine g_iload_n (i := 2) (pc1 := 8) dX8_turn_7 rfl rfl rfl ?_
    refine g_if_lt (pc1 := 11) (tgt := 42) dX8_turn_8 rfl (by decide) (fun c1 => ?_) (fun c1 => ?_)
    · exact bad (by unfold spTurn vtx; rw [if_neg]; rintro ⟨q, _⟩; rw [decide_eq_true_eq] at q; exact absurd c1 (Int32.not_lt.mpr q.1))
    · refine g_iload_n (i := 2) (pc1 := 12) dX8_turn_11 rfl rfl rfl ?_
      refine g_aload_n (i := 0) (pc1 := 13) dX8_turn_12 rfl rfl rfl ?_
      refine g_get (pc1 := 16) dX8_turn_13 rfl flX8_50 rfl rfl ?_
      refine g_icmp_ge (pc1 := 19) (tgt := 42) dX8_turn_16 rfl (by decide) (fun c2 => ?_) (fun c2 => ?_)
      · exact bad (by unfold spTurn vtx; rw [if_neg]; rintro ⟨q, _⟩; rw [decide_eq_true_eq] at q; exact absurd q.2 (Int32.not_lt.mpr c2))
      · have hvs : vtx σ.1 s = true := decide_eq_true ⟨Int32.not_lt.mp c1, Int32.not_le.mp c2⟩
        refine g_iload_n (i := 1) (pc1 := 20) dX8_turn_19 rfl rfl rfl ?_
        refine g_iconst (v := 1) (pc1 := 21) dX8_turn_20 rfl (by decide) ?_
        refine g_icmp_lt (pc1 := 24) (tgt := 42) dX8_turn_21 rfl (by decide) (fun c3 => ?_) (fun c3 => ?_)
        · exact bad (by unfold spTurn; rw [if_neg (fun q => absurd c3 (Int32.not_lt.mpr q.2.1.1))])
        · refine g_iload_n (i := 1) (pc1 := 25) dX8_turn_24 rfl rfl rfl ?_
          refine g_bipush (v := 30) (pc1 := 27) dX8_turn_25 rfl (by decide) ?_
          refine g_icmp_gt (pc1 := 30) (tgt := 42) dX8_turn_27 rfl (by decide) (fun c4 => ?_) (fun c4 => ?_)
          · exact bad (by unfold spTurn; rw [if_neg (fun q => absurd c4 (Int32.not_lt.mpr q.2.1.2))])
          · have hf1 := Int32.not_lt.mp c3
            have hf2 := Int32.not_lt.mp c4
            obtain ⟨j, hj, rfl⟩ := i30.mp ⟨Int32.le_trans (by decide) hf1, hf2⟩
            obtain ⟨w, hw, rfl⟩ := (vtx_iff hn).mp hvs
            have hj1 : 1 ≤ j := (nI_leI (a := 1) (b := j) (by omega) (by omega)).mp hf1
            have ej : (nI j).toNatClampNeg = j := nI_clamp (by omega)
            have ew : (nI w).toNatClampNeg = w := nI_clamp (by omega)
            have hgs := gcd_shd (n := σ.1) (f := j) hn0 hj1
            have hgl : Nat.gcd j σ.1 ≤ j := Nat.le_of_dvd (by omega) (Nat.gcd_dvd_left _ _)
            refine g_iload_n (i := 1) (pc1 := 31) dX8_turn_30 rfl rfl rfl ?_
            refine g_aload_n (i := 0) (pc1 := 32) dX8_turn_31 rfl rfl rfl ?_
            refine g_get (pc1 := 35) dX8_turn_32 rfl flX8_50 rfl rfl ?_
            refine g_S2 (M := mX8_common) (pc1 := 38) dX8_turn_35 rfl lkX8_80 tmX8_common (r_common (a := j) (b := σ.1) hj hn) (Nat.le_of_ble_eq_true rfl) rfl (Nat.le_of_ble_eq_true rfl) (Nat.le_of_ble_eq_true rfl) ?_
            rintro _ _ ⟨rfl, rfl⟩
            refine g_iconst (v := 1) (pc1 := 39) dX8_turn_38 rfl (by decide) ?_
            refine g_icmp_le (pc1 := 42) (tgt := 44) dX8_turn_39 rfl (by decide) (fun c5 => ?_) (fun c5 => ?_)
            · have hg1 : ex (shd σ.1 j) (j + 1) = false := by
                rw [hgs]
                refine decide_eq_false fun q => ?_
                have := (nI_leI (a := Nat.gcd j σ.1) (b := 1) (by omega) (by omega)).mp c5
                omega
              have hsp : spTurn (nI j) (nI w) σ = (1, (σ.1, tnA σ.2.1 σ.1 j w, none, σ.2.2.2)) := by unfold spTurn; rw [ej, ew, if_pos ⟨hvs, ⟨hf1, hf2⟩, hg1⟩]
              have hp := sgP_of (s := w) hn0 hj1 hg1
              have hn1 : ¬ nI σ.1 = 0 := nI_ne0 hn0 (by omega)
              rw [hsp]
              refine g_iconst (v := 0) (pc1 := 45) dX8_turn_44 rfl (by decide) ?_
              refine g_istore_n (i := 3) (pc1 := 46) dX8_turn_45 rfl rfl (Nat.le_of_ble_eq_true rfl) ?_
              refine aGo.eq (ls' := [.ref 24, .int (nI j), .int (nI w), .int (nI 0), .null, .null, .null]) (h' := rp x (nI σ.1, nr, fun k => if k < 0 then nr k else ot k) Q F W L T V P) ?_ rfl rfl (by
                have : (fun k => if k < 0 then nr k else ot k) = ot := by funext k; simp
                rw [this])
              refine down0 (P := fun i => aGo _ 46 [.ref 24, .int (nI j), .int (nI w), .int (nI i), .null, .null, .null] [] (rp x (nI σ.1, nr, fun k => if k < i then nr k else ot k) Q F W L T V P) 0 0) 900 ?_ ?_
              · refine g_iload_n (i := 3) (pc1 := 47) dX8_turn_46 rfl rfl rfl ?_
                refine g_sipush (v := 900) (pc1 := 50) dX8_turn_47 rfl (by decide) ?_
                refine g_icmp_ge (pc1 := 53) (tgt := 71) dX8_turn_50 rfl (by decide) (fun _ => ?_) (fun c => absurd (by decide) c)
                have hot : ∀ a b, a < 30 → b < 30 → (fun k => if k < 900 then nr k else ot k) (30 * a + b) = bI (σ.2.1 a b) := by
                  intro a b ha hb
                  show (if 30 * a + b < 900 then nr (30 * a + b) else ot (30 * a + b)) = _
                  rw [if_pos (by omega)]
                  exact h2.2 a b ha hb
                generalize (fun k => if k < 900 then nr k else ot k) = o2 at hot ⊢
                refine g_iconst (v := 0) (pc1 := 72) dX8_turn_71 rfl (by decide) ?_
                refine g_istore_n (i := 3) (pc1 := 73) dX8_turn_72 rfl rfl (Nat.le_of_ble_eq_true rfl) ?_
                have key : ∀ f : fI, (∀ a b, a < σ.1 → b < σ.1 → a < 0 → f (30 * sg σ.1 j w a + sg σ.1 j w b) = bI (σ.2.1 a b)) → (∀ u v, u < 30 → v < 30 → (σ.1 ≤ u ∨ σ.1 ≤ v) → f (30 * u + v) = 0) → aGo (2, 0, 0, mX8_turn, none, rQ (1, (σ.1, tnA σ.2.1 σ.1 j w, none, σ.2.2.2)) x) 73 [.ref 24, .int (nI j), .int (nI w), .int (nI 0), .null, .null, .null] [] (rp x (nI σ.1, f, o2) Q F W L T V P) 0 0 := by
                  refine down0 (P := fun a0 => ∀ f : fI, (∀ a b, a < σ.1 → b < σ.1 → a < a0 → f (30 * sg σ.1 j w a + sg σ.1 j w b) = bI (σ.2.1 a b)) → (∀ u v, u < 30 → v < 30 → (σ.1 ≤ u ∨ σ.1 ≤ v) → f (30 * u + v) = 0) → aGo _ 73 [.ref 24, .int (nI j), .int (nI w), .int (nI a0), .null, .null, .null] [] (rp x (nI σ.1, f, o2) Q F W L T V P) 0 0) σ.1 ?_ ?_
                  · intro f hf hz
                    refine g_iload_n (i := 3) (pc1 := 74) dX8_turn_73 rfl rfl rfl ?_
                    refine g_aload_n (i := 0) (pc1 := 75) dX8_turn_74 rfl rfl rfl ?_
                    refine g_get (pc1 := 78) dX8_turn_75 rfl flX8_50 rfl rfl ?_
                    refine g_icmp_ge (pc1 := 81) (tgt := 155) dX8_turn_78 rfl (by decide) (fun _ => ?_) (fun c => absurd (Int32.le_refl _) c)
                    refine g_aload_n (i := 0) (pc1 := 156) dX8_turn_155 rfl rfl rfl ?_
                    refine g_iconst (v := 0) (pc1 := 157) dX8_turn_156 rfl (by decide) ?_
                    refine g_puti (pc1 := 160) dX8_turn_157 rfl flX8_54 rfl (Nat.le_of_ble_eq_true rfl) rfl rfl ?_
                    refine g_iconst (v := 1) (pc1 := 161) dX8_turn_160 rfl (by decide) ?_
                    refine g_iret dX8_turn_161 rfl rfl (Nat.le_of_ble_eq_true rfl) (Nat.le_of_ble_eq_true rfl) ?_
                    refine rQ.mk (N := (nI σ.1, f, o2)) (V := (0, V.2.1, V.2.2)) rfl ⟨tnA_ok h1 hn0 hp, ⟨rfl, fun u v hu hv => ?_⟩, rfl, h4, h5⟩
                    show f (30 * u + v) = bI (tnA σ.2.1 σ.1 j w u v)
                    by_cases hun : u < σ.1 ∧ v < σ.1
                    · obtain ⟨a, ha, rfl⟩ := hp.2 u hun.1
                      obtain ⟨b, hb, rfl⟩ := hp.2 v hun.2
                      rw [hf a b ha hb ha]
                      congr 1
                      unfold tnA
                      cases hA : σ.2.1 a b with
                      | true => exact (ex_iff.mpr ⟨a, ha, by simp; exact ex_iff.mpr ⟨b, hb, by simp [hA]⟩⟩).symm
                      | false =>
                        symm
                        refine ex_false.mpr fun a' ha' => ?_
                        by_cases e1 : sg σ.1 j w a' = sg σ.1 j w a
                        · have := hp.1 a' a ha' ha e1
                          subst this
                          simp only [decide_true, Bool.true_and]
                          refine ex_false.mpr fun b' hb' => ?_
                          by_cases e2 : sg σ.1 j w b' = sg σ.1 j w b
                          · have := hp.1 b' b hb' hb e2
                            subst this
                            rw [hA]; rfl
                          · simp [e2]
                        · simp [e1]
                    · rw [hz u v hu hv (by omega)]
                      have hk2 := tnA_ok h1 hn0 hp
                      cases hA : tnA σ.2.1 σ.1 j w u v with
                      | false => rfl
                      | true => exact absurd (hk2.2.2.2 u v hA) hun
                  · intro a0 ha0 ih f hf hz
                    refine g_iload_n (i := 3) (pc1 := 74) dX8_turn_73 rfl rfl rfl ?_
                    refine g_aload_n (i := 0) (pc1 := 75) dX8_turn_74 rfl rfl rfl ?_
                    refine g_get (pc1 := 78) dX8_turn_75 rfl flX8_50 rfl rfl ?_
                    refine g_icmp_ge (pc1 := 81) (tgt := 155) dX8_turn_78 rfl (by decide) (fun c => absurd c (fun c => absurd ((nI_leI (a := σ.1) (b := a0) (by omega) (by omega)).mp c) (by omega))) (fun _ => ?_)
                    refine g_iconst (v := 0) (pc1 := 82) dX8_turn_81 rfl (by decide) ?_
                    refine g_istore (pc1 := 84) dX8_turn_82 rfl (Nat.le_of_ble_eq_true rfl) ?_
                    have key2 : ∀ f : fI, (∀ a b, a < σ.1 → b < σ.1 → (a < a0 ∨ (a = a0 ∧ b < 0)) → f (30 * sg σ.1 j w a + sg σ.1 j w b) = bI (σ.2.1 a b)) → (∀ u v, u < 30 → v < 30 → (σ.1 ≤ u ∨ σ.1 ≤ v) → f (30 * u + v) = 0) → aGo (2, 0, 0, mX8_turn, none, rQ (1, (σ.1, tnA σ.2.1 σ.1 j w, none, σ.2.2.2)) x) 84 [.ref 24, .int (nI j), .int (nI w), .int (nI a0), .int (nI 0), .null, .null] [] (rp x (nI σ.1, f, o2) Q F W L T V P) 0 0 := by
                      refine down0 (P := fun b0 => ∀ f : fI, (∀ a b, a < σ.1 → b < σ.1 → (a < a0 ∨ (a = a0 ∧ b < b0)) → f (30 * sg σ.1 j w a + sg σ.1 j w b) = bI (σ.2.1 a b)) → (∀ u v, u < 30 → v < 30 → (σ.1 ≤ u ∨ σ.1 ≤ v) → f (30 * u + v) = 0) → aGo _ 84 [.ref 24, .int (nI j), .int (nI w), .int (nI a0), .int (nI b0), .null, .null] [] (rp x (nI σ.1, f, o2) Q F W L T V P) 0 0) σ.1 ?_ ?_
                      · intro f hf hz
                        refine g_iload (pc1 := 86) dX8_turn_84 rfl rfl ?_
                        refine g_aload_n (i := 0) (pc1 := 87) dX8_turn_86 rfl rfl rfl ?_
                        refine g_get (pc1 := 90) dX8_turn_87 rfl flX8_50 rfl rfl ?_
                        refine g_icmp_ge (pc1 := 93) (tgt := 149) dX8_turn_90 rfl (by decide) (fun _ => ?_) (fun c => absurd (Int32.le_refl _) c)
                        refine g_iinc (pc1 := 152) dX8_turn_149 rfl rfl rfl ?_
                        refine g_goto (tgt := 73) dX8_turn_152 (by decide) ?_
                        refine aGo.forget 4 ?_
                        refine aGo.eq (ih f (fun a b ha hb hab => hf a b ha hb (by omega)) hz) ?_ rfl rfl
                        show [Value.ref 24, .int (nI j), .int (nI w), .int (nI a0 + Int32.ofInt 1), .null, .null, .null] = _
                        rw [show nI a0 + Int32.ofInt 1 = nI (a0 + 1) from nI_1 a0]
                      · intro b0 hb0 ih2 f hf hz
                        refine g_iload (pc1 := 86) dX8_turn_84 rfl rfl ?_
                        refine g_aload_n (i := 0) (pc1 := 87) dX8_turn_86 rfl rfl rfl ?_
                        refine g_get (pc1 := 90) dX8_turn_87 rfl flX8_50 rfl rfl ?_
                        refine g_icmp_ge (pc1 := 93) (tgt := 149) dX8_turn_90 rfl (by decide) (fun c => absurd c (fun c => absurd ((nI_leI (a := σ.1) (b := b0) (by omega) (by omega)).mp c) (by omega))) (fun _ => ?_)
                        refine g_iload_n (i := 3) (pc1 := 94) dX8_turn_93 rfl rfl rfl ?_
                        refine g_iload_n (i := 1) (pc1 := 95) dX8_turn_94 rfl rfl rfl ?_
                        refine g_imul (pc1 := 96) dX8_turn_95 rfl ?_
                        refine g_iload_n (i := 2) (pc1 := 97) dX8_turn_96 rfl rfl rfl ?_
                        refine g_iadd (pc1 := 98) dX8_turn_97 rfl ?_
                        refine g_aload_n (i := 0) (pc1 := 99) dX8_turn_98 rfl rfl rfl ?_
                        refine g_get (pc1 := 102) dX8_turn_99 rfl flX8_50 rfl rfl ?_
                        refine g_irem (pc1 := 103) dX8_turn_102 rfl hn1 ?_
                        dsimp only
                        rw [sg_val hn0 hn hj (by omega) (by omega)]
                        refine g_istore (pc1 := 105) dX8_turn_103 rfl (Nat.le_of_ble_eq_true rfl) ?_
                        refine g_iload (pc1 := 107) dX8_turn_105 rfl rfl ?_
                        refine g_iload_n (i := 1) (pc1 := 108) dX8_turn_107 rfl rfl rfl ?_
                        refine g_imul (pc1 := 109) dX8_turn_108 rfl ?_
                        refine g_iload_n (i := 2) (pc1 := 110) dX8_turn_109 rfl rfl rfl ?_
                        refine g_iadd (pc1 := 111) dX8_turn_110 rfl ?_
                        refine g_aload_n (i := 0) (pc1 := 112) dX8_turn_111 rfl rfl rfl ?_
                        refine g_get (pc1 := 115) dX8_turn_112 rfl flX8_50 rfl rfl ?_
                        refine g_irem (pc1 := 116) dX8_turn_115 rfl hn1 ?_
                        dsimp only
                        rw [sg_val hn0 hn hj (by omega) (by omega)]
                        have hl1 : sg σ.1 j w a0 < σ.1 := Nat.mod_lt _ hn0
                        have hl2 : sg σ.1 j w b0 < σ.1 := Nat.mod_lt _ hn0
                        refine g_istore (pc1 := 118) dX8_turn_116 rfl (Nat.le_of_ble_eq_true rfl) ?_
                        refine g_aload_n (i := 0) (pc1 := 119) dX8_turn_118 rfl rfl rfl ?_
                        refine g_get (pc1 := 122) dX8_turn_119 rfl flX8_7 rfl rfl ?_
                        refine g_bipush (v := 30) (pc1 := 124) dX8_turn_122 rfl (by decide) ?_
                        refine g_iload (pc1 := 126) dX8_turn_124 rfl rfl ?_
                        refine g_imul (pc1 := 127) dX8_turn_126 rfl ?_
                        refine g_iload (pc1 := 129) dX8_turn_127 rfl rfl ?_
                        refine g_iadd (pc1 := 130) dX8_turn_129 rfl ?_
                        refine g_aload_n (i := 0) (pc1 := 131) dX8_turn_130 rfl rfl rfl ?_
                        refine g_get (pc1 := 134) dX8_turn_131 rfl flX8_13 rfl rfl ?_
                        refine g_bipush (v := 30) (pc1 := 136) dX8_turn_134 rfl (by decide) ?_
                        refine g_iload_n (i := 3) (pc1 := 137) dX8_turn_136 rfl rfl rfl ?_
                        refine g_imul (pc1 := 138) dX8_turn_137 rfl ?_
                        refine g_iload (pc1 := 140) dX8_turn_138 rfl rfl ?_
                        refine g_iadd (pc1 := 141) dX8_turn_140 rfl ?_
                        refine g_zaldJ (pc1 := 142) dX8_turn_141 rfl rfl (ix30 a0 b0) (by omega) (by decide) ?_
                        dsimp only
                        rw [hot a0 b0 (by omega) (by omega)]
                        refine g_zastJ (pc1 := 143) dX8_turn_142 rfl rfl (ix30 _ _) (by omega) (by decide) (bI_1 _) ?_
                        refine g_iinc (pc1 := 146) dX8_turn_143 rfl rfl rfl ?_
                        refine g_goto (tgt := 84) dX8_turn_146 (by decide) ?_
                        refine aGo.forget 5 ?_
                        refine aGo.forget 6 ?_
                        refine aGo.eq (ih2 (upd f (30 * sg σ.1 j w a0 + sg σ.1 j w b0) (bI (σ.2.1 a0 b0))) (fun a b ha hb hab => ?_) (fun u v hu hv huv => ?_)) ?_ rfl rfl
                        · by_cases e : a = a0 ∧ b = b0
                          · rw [e.1, e.2, pk_us]
                          · have hla : sg σ.1 j w a < σ.1 := Nat.mod_lt _ hn0
                            have hlb : sg σ.1 j w b < σ.1 := Nat.mod_lt _ hn0
                            rw [pk_un (fun q => e ⟨hp.1 a a0 ha ha0 (by omega), hp.1 b b0 hb hb0 (by omega)⟩)]
                            exact hf a b ha hb (by omega)
                        · rw [pk_un (by omega)]
                          exact hz u v hu hv huv
                        · show [Value.ref 24, .int (nI j), .int (nI w), .int (nI a0), .int (nI b0 + Int32.ofInt 1), .null, .null] = _
                          rw [show nI b0 + Int32.ofInt 1 = nI (b0 + 1) from nI_1 b0]
                    exact key2 f (fun a b ha hb hab => hf a b ha hb (by omega)) hz
                exact key nr (fun a b _ _ q => absurd q (Nat.not_lt_zero a)) (fun u v hu hv huv => by
                  rw [show nr (30 * u + v) = bI (σ.2.1 u v) from h2.2 u v hu hv]
                  rcases huv with q | q
                  · rw [h1.out1 q]; rfl
                  · rw [h1.out q]; rfl)
              · intro i hi ih
                refine g_iload_n (i := 3) (pc1 := 47) dX8_turn_46 rfl rfl rfl ?_
                refine g_sipush (v := 900) (pc1 := 50) dX8_turn_47 rfl (by decide) ?_
                refine g_icmp_ge (pc1 := 53) (tgt := 71) dX8_turn_50 rfl (by decide) (fun c => absurd c (fun c => absurd ((nI_leI (a := 900) (b := i) (by omega) (by omega)).mp c) (by omega))) (fun _ => ?_)
                have hnb : nr i &&& 1 = nr i := by
                  have := h2.2 (i / 30) (i % 30) (by omega) (by omega)
                  rw [show 30 * (i / 30) + i % 30 = i by omega] at this
                  rw [show nr i = bI (σ.2.1 (i / 30) (i % 30)) from this]
                  exact bI_1 _
                refine g_aload_n (i := 0) (pc1 := 54) dX8_turn_53 rfl rfl rfl ?_
                refine g_get (pc1 := 57) dX8_turn_54 rfl flX8_13 rfl rfl ?_
                refine g_iload_n (i := 3) (pc1 := 58) dX8_turn_57 rfl rfl rfl ?_
                refine g_aload_n (i := 0) (pc1 := 59) dX8_turn_58 rfl rfl rfl ?_
                refine g_get (pc1 := 62) dX8_turn_59 rfl flX8_7 rfl rfl ?_
                refine g_iload_n (i := 3) (pc1 := 63) dX8_turn_62 rfl rfl rfl ?_
                refine g_zaldJ (pc1 := 64) dX8_turn_63 rfl rfl rfl hi (by decide) ?_
                refine g_zastJ (pc1 := 65) dX8_turn_64 rfl rfl rfl hi (by decide) hnb ?_
                refine g_iinc (pc1 := 68) dX8_turn_65 rfl rfl rfl ?_
                refine g_goto (tgt := 46) dX8_turn_68 (by decide) ?_
                refine aGo.eq ih ?_ rfl ?_
                · show [Value.ref 24, .int (nI j), .int (nI w), .int (nI i + Int32.ofInt 1), .null, .null, .null] = _
                  rw [show nI i + Int32.ofInt 1 = nI (i + 1) from nI_1 i]
                · have e : upd (fun k => if k < i then nr k else ot k) i (nr i) = (fun k => if k < i + 1 then nr k else ot k) := by
                    funext k
                    simp only [upd]
                    by_cases e1 : k = i
                    · subst e1; simp
                    · by_cases e2 : k < i
                      · simp [e1, e2, show k < i + 1 by omega]
                      · simp [e1, e2, show ¬ k < i + 1 by omega]
                  rw [← e]
                  rfl
            · refine bad ?_
              unfold spTurn
              rw [ej, if_neg]
              rintro ⟨_, _, q⟩
              rw [hgs, decide_eq_false_iff_not] at q
              exact c5 ((nI_leI (a := Nat.gcd j σ.1) (b := 1) (by omega) (by omega)).mpr (by omega))
theorem q_count (h : rSt σ N L T V P) (w : Int32) : aRet 3 0 0 mX8_count [.ref 24, .int w] (rp x N Q F W L T V P) (rQ (spCount w σ) x) := by
  have hh := h
  obtain ⟨h1, h2, h3, h4, h5⟩ := h
  have hn := h1.1
  obtain ⟨g1, nr, ot⟩ := N
  obtain rfl : g1 = nI σ.1 := h2.1
  have hs : ∀ i, maxN (dg σ.2.1 σ.1) i ≤ 30 := fun i => maxN_le (fun j _ => by have := dg_le σ.2.1 σ.1 j; omega)
  refine aRet.of (by decide) (Nat.le_of_ble_eq_true rfl) (a_ok2 rfl) ?_
  refine g_iconst (v := 0) (pc1 := 1) dX8_count_0 rfl (by decide) ?_
  refine g_istore_n (i := 2) (pc1 := 2) dX8_count_1 rfl rfl (Nat.le_of_ble_eq_true rfl) ?_
  refine g_iconst (v := 0) (pc1 := 3) dX8_count_2 rfl (by decide) ?_
  refine g_istore_n (i := 3) (pc1 := 4) dX8_count_3 rfl rfl (Nat.le_of_ble_eq_true rfl) ?_
  refine down0 (P := fun i => aGo _ 4 [.ref 24, .int w, .int (nI (maxN (dg σ.2.1 σ.1) i)), .int (nI i)] [] (rp x (nI σ.1, nr, ot) Q F W L T V P) 0 0) σ.1 ?_ ?_
  · refine g_iload_n (i := 3) (pc1 := 5) dX8_count_4 rfl rfl rfl ?_
    refine g_aload_n (i := 0) (pc1 := 6) dX8_count_5 rfl rfl rfl ?_
    refine g_get (pc1 := 9) dX8_count_6 rfl flX8_50 rfl rfl ?_
    refine g_icmp_ge (pc1 := 12) (tgt := 37) dX8_count_9 rfl (by decide) (fun _ => ?_) (fun c => absurd (Int32.le_refl _) c)
    refine g_iload_n (i := 1) (pc1 := 38) dX8_count_37 rfl rfl rfl ?_
    refine g_if_ne (pc1 := 41) (tgt := 48) dX8_count_38 rfl (by decide) (fun c1 => ?_) (fun c1 => ?_)
    · refine g_iload_n (i := 1) (pc1 := 49) dX8_count_48 rfl rfl rfl ?_
      refine g_iconst (v := 1) (pc1 := 50) dX8_count_49 rfl (by decide) ?_
      refine g_icmp_ne (pc1 := 53) (tgt := 60) dX8_count_50 rfl (by decide) (fun c2 => ?_) (fun c2 => ?_)
      · refine g_iload_n (i := 1) (pc1 := 61) dX8_count_60 rfl rfl rfl ?_
        refine g_iconst (v := 2) (pc1 := 62) dX8_count_61 rfl (by decide) ?_
        refine g_icmp_ne (pc1 := 65) (tgt := 69) dX8_count_62 rfl (by decide) (fun c3 => ?_) (fun c3 => ?_)
        · refine g_iconst (v := (-1)) (pc1 := 70) dX8_count_69 rfl (by decide) ?_
          refine g_iret dX8_count_70 rfl rfl (Nat.le_of_ble_eq_true rfl) (Nat.le_of_ble_eq_true rfl) ?_
          exact rQ.mk (by unfold spCount; rw [if_neg c1, if_neg c2, if_neg c3]) hh
        · refine g_iload_n (i := 2) (pc1 := 66) dX8_count_65 rfl rfl rfl ?_
          refine g_goto (tgt := 70) dX8_count_66 (by decide) ?_
          refine g_iret dX8_count_70 rfl rfl (Nat.le_of_ble_eq_true rfl) (Nat.le_of_ble_eq_true rfl) ?_
          exact rQ.mk (by unfold spCount; rw [if_neg c1, if_neg c2, if_pos c3]) hh
      · refine g_aload_n (i := 0) (pc1 := 54) dX8_count_53 rfl rfl rfl ?_
        refine g_V0 (M := mX8_edges) (pc1 := 57) dX8_count_54 rfl lkX8_76 tmX8_edges rfl (r_edges x σ.1 nr ot Q F W L T V P h2 hn) (Nat.le_of_ble_eq_true rfl) rfl (Nat.le_of_ble_eq_true rfl) (Nat.le_of_ble_eq_true rfl) ?_
        rintro _ _ ⟨rfl, rfl⟩
        refine g_goto (tgt := 70) dX8_count_57 (by decide) ?_
        refine g_iret dX8_count_70 rfl rfl (Nat.le_of_ble_eq_true rfl) (Nat.le_of_ble_eq_true rfl) ?_
        exact rQ.mk (by unfold spCount; rw [if_neg c1, if_pos c2]) hh
    · refine g_aload_n (i := 0) (pc1 := 42) dX8_count_41 rfl rfl rfl ?_
      refine g_get (pc1 := 45) dX8_count_42 rfl flX8_50 rfl rfl ?_
      refine g_goto (tgt := 70) dX8_count_45 (by decide) ?_
      refine g_iret dX8_count_70 rfl rfl (Nat.le_of_ble_eq_true rfl) (Nat.le_of_ble_eq_true rfl) ?_
      exact rQ.mk (by unfold spCount; rw [if_pos c1]) hh
  · intro i hi ih
    refine g_iload_n (i := 3) (pc1 := 5) dX8_count_4 rfl rfl rfl ?_
    refine g_aload_n (i := 0) (pc1 := 6) dX8_count_5 rfl rfl rfl ?_
    refine g_get (pc1 := 9) dX8_count_6 rfl flX8_50 rfl rfl ?_
    refine g_icmp_ge (pc1 := 12) (tgt := 37) dX8_count_9 rfl (by decide) (fun c => absurd c (fun c => absurd ((nI_leI (a := σ.1) (b := i) (by omega) (by omega)).mp c) (by omega))) (fun _ => ?_)
    refine g_aload_n (i := 0) (pc1 := 13) dX8_count_12 rfl rfl rfl ?_
    refine g_iload_n (i := 3) (pc1 := 14) dX8_count_13 rfl rfl rfl ?_
    refine g_V1 (M := mX8_degreeOf) (pc1 := 17) dX8_count_14 rfl lkX8_70 tmX8_degreeOf rfl (r_degreeOf x σ.1 nr ot Q F W L T V P h2 hn (v := i) (by omega)) (Nat.le_of_ble_eq_true rfl) rfl (Nat.le_of_ble_eq_true rfl) (Nat.le_of_ble_eq_true rfl) ?_
    rintro _ _ ⟨rfl, rfl⟩
    refine g_iload_n (i := 2) (pc1 := 18) dX8_count_17 rfl rfl rfl ?_
    have l1 := hs i
    have l2 := dg_le σ.2.1 σ.1 i
    have e0 : maxN (dg σ.2.1 σ.1) (i + 1) = if maxN (dg σ.2.1 σ.1) i < dg σ.2.1 σ.1 i then dg σ.2.1 σ.1 i else maxN (dg σ.2.1 σ.1) i := rfl
    refine g_icmp_le (pc1 := 21) (tgt := 29) dX8_count_18 rfl (by decide) (fun c => ?_) (fun c => ?_)
    · have h6 := (nI_leI (a := dg σ.2.1 σ.1 i) (b := maxN (dg σ.2.1 σ.1) i) (by omega) (by omega)).mp c
      refine g_iload_n (i := 2) (pc1 := 30) dX8_count_29 rfl rfl rfl ?_
      refine g_istore_n (i := 2) (pc1 := 31) dX8_count_30 rfl rfl (Nat.le_of_ble_eq_true rfl) ?_
      refine g_iinc (pc1 := 34) dX8_count_31 rfl rfl rfl ?_
      refine g_goto (tgt := 4) dX8_count_34 (by decide) ?_
      refine aGo.eq ih ?_ rfl rfl
      show [Value.ref 24, .int w, .int (nI (maxN (dg σ.2.1 σ.1) i)), .int (nI i + Int32.ofInt 1)] = _
      rw [show nI i + Int32.ofInt 1 = nI (i + 1) from nI_1 i, e0, if_neg (by omega)]
    · have h6 : ¬ dg σ.2.1 σ.1 i ≤ maxN (dg σ.2.1 σ.1) i := fun q => c ((nI_leI (a := dg σ.2.1 σ.1 i) (b := maxN (dg σ.2.1 σ.1) i) (by omega) (by omega)).mpr q)
      refine g_aload_n (i := 0) (pc1 := 22) dX8_count_21 rfl rfl rfl ?_
      refine g_iload_n (i := 3) (pc1 := 23) dX8_count_22 rfl rfl rfl ?_
      refine g_V1 (M := mX8_degreeOf) (pc1 := 26) dX8_count_23 rfl lkX8_70 tmX8_degreeOf rfl (r_degreeOf x σ.1 nr ot Q F W L T V P h2 hn (v := i) (by omega)) (Nat.le_of_ble_eq_true rfl) rfl (Nat.le_of_ble_eq_true rfl) (Nat.le_of_ble_eq_true rfl) ?_
      rintro _ _ ⟨rfl, rfl⟩
      show aGo _ 26 _ [.int _] _ _ _
      refine g_goto (tgt := 30) dX8_count_26 (by decide) ?_
      refine g_istore_n (i := 2) (pc1 := 31) dX8_count_30 rfl rfl (Nat.le_of_ble_eq_true rfl) ?_
      refine g_iinc (pc1 := 34) dX8_count_31 rfl rfl rfl ?_
      refine g_goto (tgt := 4) dX8_count_34 (by decide) ?_
      refine aGo.eq ih ?_ rfl rfl
      show [Value.ref 24, .int w, .int (nI (dg σ.2.1 σ.1 i)), .int (nI i + Int32.ofInt 1)] = _
      rw [show nI i + Int32.ofInt 1 = nI (i + 1) from nI_1 i, e0, if_pos (by omega)]
end
