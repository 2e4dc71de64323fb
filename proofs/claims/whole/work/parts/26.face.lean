/-! ===== the state that both tell of; what each call answers ===== -/
/-- vertices, edges, what is solved (THE BEST, THE LOG, the tallies), the told log, the told colours -/
abbrev tSt : Type := Nat × (Nat → Nat → Bool) × Option (tCol × tLog × tT) × tLog × tCol
def cSol (n : Nat) (U : tU) (L2 : tL) : Option (tCol × tLog × tT) → Prop
  | none => U.1 = 0
  | some (b, lg, t) => U.1 = 1 ∧ bsC n U.2.1 b ∧ (∀ v c, b v = some c → c < 30) ∧ tlC U.2.2.2 t ∧ lC L2 lg
def cSt (σ : tSt) (G : tG) (U : tU) (L2 L3 : tL) (P : fI) : Prop := Gok σ.1 σ.2.1 ∧ gC G σ.1 σ.2.1 ∧ cSol σ.1 U L2 σ.2.2.1 ∧ lC L3 σ.2.2.2.1 ∧ pC P σ.2.2.2.2
/-- behind a call of the class: the answer and the state; the other cells are as they were -/
def cQ (ra : Int32 × tSt) (r : List aC) (v : Option Value) (g : List aC) : Prop := v = some (.int ra.1) ∧ ∃ G K S L1 U L2 L3 C P, cSt ra.2 G U L2 L3 P ∧ g = cp G K S L1 U L2 L3 C P r
theorem sumN_add (f g : Nat → Nat) : ∀ n, sumN (fun i => f i + g i) n = sumN f n + sumN g n
  | 0 => rfl
  | n + 1 => by
    show sumN (fun i => f i + g i) n + (f n + g n) = (sumN f n + f n) + (sumN g n + g n)
    rw [sumN_add f g n]; omega
theorem sumN_one {x : Nat} : ∀ {n : Nat}, x < n → sumN (fun u => if decide (x = u) = true then 1 else 0) n = 1
  | 0, h => absurd h (Nat.not_lt_zero x)
  | n + 1, h => by
    unfold sumN
    by_cases hx : x = n
    · subst hx
      have : sumN (fun u => if decide (x = u) = true then 1 else 0) x = 0 := by
        have h1 := sumN_le (f := fun u => if decide (x = u) = true then 1 else 0) (B := 0) (n := x) (fun i hi => by simp; omega)
        omega
      rw [this]; simp
    · rw [sumN_one (n := n) (by omega)]; simp [hx]
theorem sumN_hit {s : Nat → Nat} {n : Nat} : ∀ (m : Nat), (∀ v, v < m → s v < n) → sumN (fun u => cnt (fun v => decide (s v = u)) m) n = m
  | 0, _ => by
    have := sumN_le (f := fun u => cnt (fun v => decide (s v = u)) 0) (B := 0) (n := n) (fun i _ => Nat.le_refl _)
    simp [cnt] at this
    show sumN (fun u => cnt (fun v => decide (s v = u)) 0) n = 0
    simp only [cnt]
    exact this
  | m + 1, h => by
    have ih := sumN_hit m (fun v hv => h v (by omega))
    have e : (fun u => cnt (fun v => decide (s v = u)) (m + 1)) = (fun u => cnt (fun v => decide (s v = u)) m + (if decide (s m = u) = true then 1 else 0)) := rfl
    rw [e, sumN_add, ih, sumN_one (h m (by omega))]
theorem cnt_le1 {p : Nat → Bool} : ∀ {n : Nat}, (∀ i j, i < n → j < n → p i = true → p j = true → i = j) → cnt p n ≤ 1
  | 0, _ => Nat.zero_le _
  | n + 1, h => by
    unfold cnt
    by_cases hp : p n = true
    · have : cnt p n = 0 := cnt_zero fun i hi => by
        cases hi2 : p i with
        | false => rfl
        | true => have := h i n (by omega) (by omega) hi2 hp; omega
      rw [this, if_pos hp]; omega
    · have := cnt_le1 (n := n) (p := p) (fun i j hi hj => h i j (by omega) (by omega))
      rw [if_neg hp]; omega
theorem sumN_lt1 {f : Nat → Nat} : ∀ {n i : Nat}, (∀ j, j < n → f j ≤ 1) → i < n → f i = 0 → sumN f n < n
  | 0, i, _, h, _ => absurd h (Nat.not_lt_zero i)
  | n + 1, i, hb, h, h0 => by
    unfold sumN
    have hbn := hb n (by omega)
    by_cases hi : i = n
    · subst hi
      have := sumN_le (f := f) (B := 1) (n := i) (fun j hj => hb j (by omega))
      omega
    · have := sumN_lt1 (n := n) (i := i) (fun j hj => hb j (by omega)) (by omega) h0
      omega
theorem sgP_of {n f s : Nat} (hn0 : 0 < n) (hf : 1 ≤ f) (h : ex (shd n f) (f + 1) = false) : sgP n f s := by
  have hco : Nat.gcd n f = 1 := by
    have h1 : 0 < Nat.gcd n f := Nat.gcd_pos_of_pos_left _ hn0
    refine Classical.byContradiction fun h2 => ?_
    have h3 : Nat.gcd n f ∣ n := Nat.gcd_dvd_left _ _
    have h4 : Nat.gcd n f ∣ f := Nat.gcd_dvd_right _ _
    have h5 : Nat.gcd n f ≤ f := Nat.le_of_dvd (by omega) h4
    have := ex_false.mp h (Nat.gcd n f) (by omega)
    simp [shd, Nat.mod_eq_zero_of_dvd h3, Nat.mod_eq_zero_of_dvd h4] at this
    omega
  have key : ∀ v w, v < w → w < n → sg n f s v ≠ sg n f s w := by
    intro v w hvw hw he
    unfold sg at he
    have h1 : n ∣ (w * f + s) - (v * f + s) := (Nat.dvd_iff_mod_eq_zero).mpr (Nat.sub_mod_eq_zero_of_mod_eq he.symm)
    have h2 : (w * f + s) - (v * f + s) = (w - v) * f := by rw [Nat.sub_mul]; omega
    rw [h2] at h1
    have h3 : n ∣ w - v := Nat.Coprime.dvd_of_dvd_mul_right hco h1
    have := Nat.le_of_dvd (by omega) h3
    omega
  have inj : ∀ v w, v < n → w < n → sg n f s v = sg n f s w → v = w := by
    intro v w hv hw he
    rcases Nat.lt_trichotomy v w with q | q | q
    · exact absurd he (key v w q hw)
    · exact q
    · exact absurd he.symm (key w v q hv)
  refine ⟨inj, fun u hu => ?_⟩
  have hs := sumN_hit (s := sg n f s) (n := n) n (fun v _ => Nat.mod_lt _ hn0)
  refine Classical.byContradiction fun hno => ?_
  have h0 : cnt (fun v => decide (sg n f s v = u)) n = 0 := cnt_zero fun v hv => decide_eq_false fun e => hno ⟨v, hv, e⟩
  have := sumN_lt1 (f := fun u => cnt (fun v => decide (sg n f s v = u)) n) (n := n) (i := u) (fun j _ => cnt_le1 fun a b ha hb h1 h2 => by
    simp only [decide_eq_true_eq] at h1 h2
    exact inj a b ha hb (h1.trans h2.symm)) hu h0
  omega
theorem tnA_ok {n f s : Nat} {A : Nat → Nat → Bool} (hk : Gok n A) (hn0 : 0 < n) (hp : sgP n f s) : Gok n (tnA A n f s) := by
  have ht : ∀ u w, tnA A n f s u w = true ↔ ∃ v x, v < n ∧ x < n ∧ sg n f s v = u ∧ sg n f s x = w ∧ A v x = true := by
    intro u w
    unfold tnA
    rw [ex_iff]
    constructor
    · rintro ⟨v, hv, h⟩
      simp only [Bool.and_eq_true, decide_eq_true_eq] at h
      obtain ⟨x, hx, h2⟩ := ex_iff.mp h.2
      simp only [Bool.and_eq_true, decide_eq_true_eq] at h2
      exact ⟨v, x, hv, hx, h.1, h2.2, h2.1⟩
    · rintro ⟨v, x, hv, hx, h1, h2, h3⟩
      refine ⟨v, hv, ?_⟩
      simp only [Bool.and_eq_true, decide_eq_true_eq]
      exact ⟨h1, ex_iff.mpr ⟨x, hx, by simp [h3, h2]⟩⟩
  refine ⟨hk.1, fun u w => ?_, fun u => ?_, fun u w h => ?_⟩
  · have h1 : tnA A n f s u w = true ↔ tnA A n f s w u = true := by
      rw [ht, ht]
      constructor
      · rintro ⟨v, x, a1, a2, a3, a4, a5⟩; exact ⟨x, v, a2, a1, a4, a3, by rw [hk.2.1]; exact a5⟩
      · rintro ⟨v, x, a1, a2, a3, a4, a5⟩; exact ⟨x, v, a2, a1, a4, a3, by rw [hk.2.1]; exact a5⟩
    cases h2 : tnA A n f s u w with
    | true => exact (h1.mp h2).symm
    | false =>
      cases h3 : tnA A n f s w u with
      | false => rfl
      | true => rw [h1.mpr h3] at h2; cases h2
  · cases h2 : tnA A n f s u u with
    | false => rfl
    | true =>
      obtain ⟨v, x, a1, a2, a3, a4, a5⟩ := (ht u u).mp h2
      rw [hp.1 v x a1 a2 (a3.trans a4.symm), hk.2.2.1] at a5
      cases a5
  · obtain ⟨v, x, a1, a2, a3, a4, a5⟩ := (ht u w).mp h
    exact ⟨by rw [← a3]; exact Nat.mod_lt _ hn0, by rw [← a4]; exact Nat.mod_lt _ hn0⟩
theorem flA_ok {n a b : Nat} {A : Nat → Nat → Bool} (hk : Gok n A) (ha : a < n) (hb : b < n) (hab : a ≠ b) : Gok n (flA A a b) := by
  refine ⟨hk.1, fun v w => ?_, fun v => ?_, fun v w h => ?_⟩
  · unfold flA
    rw [hk.2.1 v w]
    congr 1
    rw [Bool.and_comm, Bool.or_comm, Bool.and_comm (decide (v = b))]
  · unfold flA
    rw [hk.2.2.1 v]
    by_cases h1 : v = a
    · subst h1; simp [hab]
    · simp [h1]
  · unfold flA at h
    by_cases h1 : A v w = true
    · exact hk.2.2.2 v w h1
    · rw [show A v w = false by simpa using h1] at h
      simp only [Bool.false_bne, Bool.or_eq_true, Bool.and_eq_true, decide_eq_true_eq] at h
      rcases h with ⟨h2, h3⟩ | ⟨h2, h3⟩ <;> omega
theorem sv_ok {n : Nat} {A : Nat → Nat → Bool} : ∀ (m : Nat) (b : tCol × Nat) (t : tT), b.2 ≤ 30 → Cok n b.1 b.2 → Cok n (sv n A m b t).2.1.1 (sv n A m b t).2.1.2
  | 0, _, _, _, h => h
  | m + 1, b, t, hb, h => by
    unfold sv
    by_cases h1 : cq n A < b.2
    · rw [if_pos h1]
      by_cases h2 : (srR n A (b.2 - 1)).1 = 1
      · rw [if_pos h2]
        obtain ⟨g1, g2, -⟩ := srR_found (by omega) h2
        exact sv_ok m _ _ (by omega) g1
      · rw [if_neg h2]; exact h
    · rw [if_neg h1]; exact h
theorem svR_ok {n : Nat} (hn : n ≤ 30) (A : Nat → Nat → Bool) : Cok n (svR n A).2.1.1 (svR n A).2.1.2 := sv_ok 30 _ _ (by have := (fgS_ok n A n).le; omega) (fgS_ok n A n)
theorem i30 {x : Int32} : (0 ≤ x ∧ x ≤ 30) ↔ ∃ j, j ≤ 30 ∧ x = nI j := by
  constructor
  · rintro ⟨h1, h2⟩
    obtain ⟨j, hj, rfl⟩ := nI_of (x := x) (Int32.not_lt.mpr h1)
    exact ⟨j, (nI_leI (b := 30) hj (by omega)).mp h2, rfl⟩
  · rintro ⟨j, hj, rfl⟩
    exact ⟨nI_pos' (by omega), (nI_leI (b := 30) (by omega) (by omega)).mpr hj⟩
-- what each call answers, and what becomes of the state
def noE : Nat → Nat → Bool := fun _ _ => false
def spGraph (x : Int32) (σ : tSt) : Int32 × tSt := if 0 ≤ x ∧ x ≤ 30 then (x, (x.toNatClampNeg, noE, none, σ.2.2.2)) else (-1, σ)
def spEdge (a b : Int32) (on : Bool) (σ : tSt) : Int32 × tSt :=
  if (vtx σ.1 a = true ∧ vtx σ.1 b = true) ∧ a ≠ b then (if σ.2.1 a.toNatClampNeg b.toNatClampNeg = on then (0, σ) else (1, (σ.1, flA σ.2.1 a.toNatClampNeg b.toNatClampNeg, none, σ.2.2.2))) else (-1, σ)
def spDraw (seed part : Int32) (σ : tSt) : Int32 × tSt := if 0 ≤ part ∧ part ≤ 100 then (nI (sumN (dg (drA seed part σ.1) σ.1) σ.1 / 2), (σ.1, drA seed part σ.1, none, σ.2.2.2)) else (-1, σ)
def spTurn (f s : Int32) (σ : tSt) : Int32 × tSt := if vtx σ.1 s = true ∧ (1 ≤ f ∧ f ≤ 30) ∧ ex (shd σ.1 f.toNatClampNeg) (f.toNatClampNeg + 1) = false then (1, (σ.1, tnA σ.2.1 σ.1 f.toNatClampNeg s.toNatClampNeg, none, σ.2.2.2)) else (-1, σ)
def spCount (w : Int32) (σ : tSt) : Int32 × tSt := (if w = 0 then nI σ.1 else if w = 1 then nI (sumN (dg σ.2.1 σ.1) σ.1 / 2) else if w = 2 then nI (maxN (dg σ.2.1 σ.1) σ.1) else -1, σ)
def spHas (a b : Int32) (σ : tSt) : Int32 × tSt := (bI (vtx σ.1 a && (vtx σ.1 b && σ.2.1 a.toNatClampNeg b.toNatClampNeg)), σ)
def spDegree (v : Int32) (σ : tSt) : Int32 × tSt := (if vtx σ.1 v = true then nI (dg σ.2.1 σ.1 v.toNatClampNeg) else -1, σ)
section
variable (σ : tSt) (G : tG) (K : tK) (S : tS) (L1 : tL) (U : tU) (L2 L3 : tL) (C : Int32 × Int32) (P : fI) (r : List aC)
theorem cQ.mk {σ : tSt} {G : tG} {K : tK} {S : tS} {L1 : tL} {U : tU} {L2 L3 : tL} {C : Int32 × Int32} {P : fI} {r : List aC} {x : Int32} {ra : Int32 × tSt} (e : ra = (x, σ)) (h : cSt σ G U L2 L3 P) : cQ ra r (some (.int x)) (cp G K S L1 U L2 L3 C P r) := by
  subst e
  exact ⟨rfl, G, K, S, L1, U, L2, L3, C, P, h, rfl⟩
theorem f_graph (h : cSt σ G U L2 L3 P) (x : Int32) : aRet 2 0 0 mX7_graph [.ref 0, .int x] (cp G K S L1 U L2 L3 C P r) (cQ (spGraph x σ) r) := by
  obtain ⟨h1, h2, h3, h4, h5⟩ := h
  refine aRet.of (by decide) (Nat.le_of_ble_eq_true rfl) (a_ok2 rfl) ?_
  refine g_iload_n (i := 1) (pc1 := 1) dX7_graph_0 rfl rfl rfl ?_
  refine g_if_lt (pc1 := 4) (tgt := 10) dX7_graph_1 rfl (by decide) (fun c1 => ?_) (fun c1 => ?_)
  · refine g_iconst (v := (-1)) (pc1 := 11) dX7_graph_10 rfl (by decide) ?_
    refine g_iret dX7_graph_11 rfl rfl (Nat.le_of_ble_eq_true rfl) (Nat.le_of_ble_eq_true rfl) ?_
    exact cQ.mk (by unfold spGraph; rw [if_neg (fun q => absurd c1 (Int32.not_lt.mpr q.1))]) ⟨h1, h2, h3, h4, h5⟩
  · refine g_iload_n (i := 1) (pc1 := 5) dX7_graph_4 rfl rfl rfl ?_
    refine g_bipush (v := 30) (pc1 := 7) dX7_graph_5 rfl (by decide) ?_
    refine g_icmp_le (pc1 := 10) (tgt := 12) dX7_graph_7 rfl (by decide) (fun c2 => ?_) (fun c2 => ?_)
    · obtain ⟨j, hj, rfl⟩ := i30.mp ⟨Int32.not_lt.mp c1, c2⟩
      refine g_aload_n (i := 0) (pc1 := 13) dX7_graph_12 rfl rfl rfl ?_
      refine g_get (pc1 := 16) dX7_graph_13 rfl flX7_10 rfl rfl ?_
      refine g_iload_n (i := 1) (pc1 := 17) dX7_graph_16 rfl rfl rfl ?_
      refine g_V1 (M := mX2_restart) (pc1 := 20) dX7_graph_17 rfl lkX7_66 tmX2_restart rfl (c_restart G K S L1 U L2 L3 C P r (nI j)) (Nat.le_of_ble_eq_true rfl) rfl (Nat.le_of_ble_eq_true rfl) (Nat.le_of_ble_eq_true rfl) ?_
      rintro _ _ ⟨rfl, rfl⟩
      show aGo _ 20 _ [] _ _ _
      refine g_aload_n (i := 0) (pc1 := 21) dX7_graph_20 rfl rfl rfl ?_
      refine g_get (pc1 := 24) dX7_graph_21 rfl flX7_39 rfl rfl ?_
      refine g_V0 (M := mX5_forget) (pc1 := 27) dX7_graph_24 rfl lkX7_70 tmX5_forget rfl (c_forget K S L1 U L2 L3 C P r (nI j, fil 30 0 G.2.1, G.2.2)) (Nat.le_of_ble_eq_true rfl) rfl (Nat.le_of_ble_eq_true rfl) (Nat.le_of_ble_eq_true rfl) ?_
      rintro _ _ ⟨rfl, rfl⟩
      show aGo _ 27 _ [] _ _ _
      refine g_iload_n (i := 1) (pc1 := 28) dX7_graph_27 rfl rfl rfl ?_
      refine g_iret dX7_graph_28 rfl rfl (Nat.le_of_ble_eq_true rfl) (Nat.le_of_ble_eq_true rfl) ?_
      refine cQ.mk (σ := (j, noE, none, σ.2.2.2)) (by unfold spGraph; rw [if_pos ⟨Int32.not_lt.mp c1, c2⟩, nI_clamp (by omega)]) ⟨⟨hj, fun _ _ => rfl, fun _ => rfl, fun _ _ q => by cases q⟩, ⟨rfl, fun v hv i => ?_⟩, rfl, h4, h5⟩
      show bt (fil 30 0 G.2.1 v) i = false
      simp [fil, hv, b_0]
    · refine g_iconst (v := (-1)) (pc1 := 11) dX7_graph_10 rfl (by decide) ?_
      refine g_iret dX7_graph_11 rfl rfl (Nat.le_of_ble_eq_true rfl) (Nat.le_of_ble_eq_true rfl) ?_
      exact cQ.mk (by unfold spGraph; rw [if_neg (fun q => c2 q.2)]) ⟨h1, h2, h3, h4, h5⟩
set_option maxHeartbeats 1000000 in
theorem f_edge (h : cSt σ G U L2 L3 P) (a b : Int32) (on : Bool) : aRet 2 0 0 mX7_edge [.ref 0, .int a, .int b, .int (bI on)] (cp G K S L1 U L2 L3 C P r) (cQ (spEdge a b on σ) r) := by
  have hh := h
  obtain ⟨h1, h2, h3, h4, h5⟩ := h
  have hn := h1.1
  refine aRet.of (by decide) (Nat.le_of_ble_eq_true rfl) (a_ok2 rfl) ?_
  refine g_aload_n (i := 0) (pc1 := 1) dX7_edge_0 rfl rfl rfl ?_
  refine g_get (pc1 := 4) dX7_edge_1 rfl flX7_10 rfl rfl ?_
  refine g_iload_n (i := 1) (pc1 := 5) dX7_edge_4 rfl rfl rfl ?_
  refine g_V1 (M := mX2_isVertex) (pc1 := 8) dX7_edge_5 rfl lkX7_73 tmX2_isVertex rfl (c_isVertex G K S L1 U L2 L3 C P r σ.1 hn h2.1 a) (Nat.le_of_ble_eq_true rfl) rfl (Nat.le_of_ble_eq_true rfl) (Nat.le_of_ble_eq_true rfl) ?_
  rintro _ _ ⟨rfl, rfl⟩
  refine g_if_eq (pc1 := 11) (tgt := 27) dX7_edge_8 rfl (by decide) (fun c1 => ?_) (fun c1 => ?_)
  · rw [bI_eq0] at c1
    refine g_iconst (v := (-1)) (pc1 := 28) dX7_edge_27 rfl (by decide) ?_
    refine g_iret dX7_edge_28 rfl rfl (Nat.le_of_ble_eq_true rfl) (Nat.le_of_ble_eq_true rfl) ?_
    exact cQ.mk (by unfold spEdge; rw [if_neg (fun q => by rw [show vtx σ.1 a = false from c1] at q; cases q.1.1)]) hh
  · rw [bI_ne0] at c1
    refine g_aload_n (i := 0) (pc1 := 12) dX7_edge_11 rfl rfl rfl ?_
    refine g_get (pc1 := 15) dX7_edge_12 rfl flX7_10 rfl rfl ?_
    refine g_iload_n (i := 2) (pc1 := 16) dX7_edge_15 rfl rfl rfl ?_
    refine g_V1 (M := mX2_isVertex) (pc1 := 19) dX7_edge_16 rfl lkX7_73 tmX2_isVertex rfl (c_isVertex G K S L1 U L2 L3 C P r σ.1 hn h2.1 b) (Nat.le_of_ble_eq_true rfl) rfl (Nat.le_of_ble_eq_true rfl) (Nat.le_of_ble_eq_true rfl) ?_
    rintro _ _ ⟨rfl, rfl⟩
    refine g_if_eq (pc1 := 22) (tgt := 27) dX7_edge_19 rfl (by decide) (fun c2 => ?_) (fun c2 => ?_)
    · rw [bI_eq0] at c2
      refine g_iconst (v := (-1)) (pc1 := 28) dX7_edge_27 rfl (by decide) ?_
      refine g_iret dX7_edge_28 rfl rfl (Nat.le_of_ble_eq_true rfl) (Nat.le_of_ble_eq_true rfl) ?_
      exact cQ.mk (by unfold spEdge; rw [if_neg (fun q => by rw [show vtx σ.1 b = false from c2] at q; cases q.1.2)]) hh
    · rw [bI_ne0] at c2
      refine g_iload_n (i := 1) (pc1 := 23) dX7_edge_22 rfl rfl rfl ?_
      refine g_iload_n (i := 2) (pc1 := 24) dX7_edge_23 rfl rfl rfl ?_
      refine g_icmp_ne (pc1 := 27) (tgt := 29) dX7_edge_24 rfl (by decide) (fun c3 => ?_) (fun c3 => ?_)
      · obtain ⟨u, hu, rfl⟩ := (vtx_iff hn).mp c1
        obtain ⟨w, hw, rfl⟩ := (vtx_iff hn).mp c2
        have huw : u ≠ w := fun q => c3 (by rw [q])
        have ea : (nI u).toNatClampNeg = u := nI_clamp (by omega)
        have eb : (nI w).toNatClampNeg = w := nI_clamp (by omega)
        have hsp : spEdge (nI u) (nI w) on σ = if σ.2.1 u w = on then (0, σ) else (1, (σ.1, flA σ.2.1 u w, none, σ.2.2.2)) := by unfold spEdge; rw [if_pos ⟨⟨c1, c2⟩, c3⟩, ea, eb]
        rw [hsp]
        refine g_aload_n (i := 0) (pc1 := 30) dX7_edge_29 rfl rfl rfl ?_
        refine g_get (pc1 := 33) dX7_edge_30 rfl flX7_10 rfl rfl ?_
        refine g_iload_n (i := 1) (pc1 := 34) dX7_edge_33 rfl rfl rfl ?_
        refine g_iload_n (i := 2) (pc1 := 35) dX7_edge_34 rfl rfl rfl ?_
        refine g_V2 (M := mX2_joined) (pc1 := 38) dX7_edge_35 rfl lkX7_77 tmX2_joined rfl (c_joined G K S L1 U L2 L3 C P r h2 (a := u) (b := w) (by omega) (by omega)) (Nat.le_of_ble_eq_true rfl) rfl (Nat.le_of_ble_eq_true rfl) (Nat.le_of_ble_eq_true rfl) ?_
        rintro _ _ ⟨rfl, rfl⟩
        refine g_iload_n (i := 3) (pc1 := 39) dX7_edge_38 rfl rfl rfl ?_
        refine g_icmp_ne (pc1 := 42) (tgt := 44) dX7_edge_39 rfl (by decide) (fun c4 => ?_) (fun c4 => ?_)
        · have h6 : ¬ σ.2.1 u w = on := fun q => c4 (by rw [q])
          rw [if_neg h6]
          refine g_aload_n (i := 0) (pc1 := 45) dX7_edge_44 rfl rfl rfl ?_
          refine g_get (pc1 := 48) dX7_edge_45 rfl flX7_10 rfl rfl ?_
          refine g_iload_n (i := 1) (pc1 := 49) dX7_edge_48 rfl rfl rfl ?_
          refine g_iload_n (i := 2) (pc1 := 50) dX7_edge_49 rfl rfl rfl ?_
          refine g_V2 (M := mX2_flip) (pc1 := 53) dX7_edge_50 rfl lkX7_81 tmX2_flip rfl (c_flip G K S L1 U L2 L3 C P r h2 (a := u) (b := w) (by omega) (by omega) huw) (Nat.le_of_ble_eq_true rfl) rfl (Nat.le_of_ble_eq_true rfl) (Nat.le_of_ble_eq_true rfl) ?_
          rintro _ _ ⟨rfl, nr, hnr, rfl⟩
          show aGo _ 53 _ [] _ _ _
          refine g_aload_n (i := 0) (pc1 := 54) dX7_edge_53 rfl rfl rfl ?_
          refine g_get (pc1 := 57) dX7_edge_54 rfl flX7_39 rfl rfl ?_
          refine g_V0 (M := mX5_forget) (pc1 := 60) dX7_edge_57 rfl lkX7_70 tmX5_forget rfl (c_forget K S L1 U L2 L3 C P r (G.1, nr, G.2.2)) (Nat.le_of_ble_eq_true rfl) rfl (Nat.le_of_ble_eq_true rfl) (Nat.le_of_ble_eq_true rfl) ?_
          rintro _ _ ⟨rfl, rfl⟩
          show aGo _ 60 _ [] _ _ _
          refine g_iconst (v := 1) (pc1 := 61) dX7_edge_60 rfl (by decide) ?_
          refine g_iret dX7_edge_61 rfl rfl (Nat.le_of_ble_eq_true rfl) (Nat.le_of_ble_eq_true rfl) ?_
          exact cQ.mk rfl ⟨flA_ok h1 hu hw huw, hnr, rfl, h4, h5⟩
        · have h6 : σ.2.1 u w = on := bI_inj.mp c4
          rw [if_pos h6]
          refine g_iconst (v := 0) (pc1 := 43) dX7_edge_42 rfl (by decide) ?_
          refine g_iret dX7_edge_43 rfl rfl (Nat.le_of_ble_eq_true rfl) (Nat.le_of_ble_eq_true rfl) ?_
          exact cQ.mk rfl hh
      · refine g_iconst (v := (-1)) (pc1 := 28) dX7_edge_27 rfl (by decide) ?_
        refine g_iret dX7_edge_28 rfl rfl (Nat.le_of_ble_eq_true rfl) (Nat.le_of_ble_eq_true rfl) ?_
        exact cQ.mk (by unfold spEdge; rw [if_neg (fun q => q.2 c3)]) hh
theorem f_draw (h : cSt σ G U L2 L3 P) (seed part : Int32) : aRet 3 0 0 mX7_draw [.ref 0, .int seed, .int part] (cp G K S L1 U L2 L3 C P r) (cQ (spDraw seed part σ) r) := by
  have hh := h
  obtain ⟨h1, h2, h3, h4, h5⟩ := h
  have hn := h1.1
  refine aRet.of (by decide) (Nat.le_of_ble_eq_true rfl) (a_ok2 rfl) ?_
  refine g_iload_n (i := 2) (pc1 := 1) dX7_draw_0 rfl rfl rfl ?_
  refine g_if_lt (pc1 := 4) (tgt := 10) dX7_draw_1 rfl (by decide) (fun c1 => ?_) (fun c1 => ?_)
  · refine g_iconst (v := (-1)) (pc1 := 11) dX7_draw_10 rfl (by decide) ?_
    refine g_iret dX7_draw_11 rfl rfl (Nat.le_of_ble_eq_true rfl) (Nat.le_of_ble_eq_true rfl) ?_
    exact cQ.mk (by unfold spDraw; rw [if_neg (fun q => absurd c1 (Int32.not_lt.mpr q.1))]) hh
  · refine g_iload_n (i := 2) (pc1 := 5) dX7_draw_4 rfl rfl rfl ?_
    refine g_bipush (v := 100) (pc1 := 7) dX7_draw_5 rfl (by decide) ?_
    refine g_icmp_le (pc1 := 10) (tgt := 12) dX7_draw_7 rfl (by decide) (fun c2 => ?_) (fun c2 => ?_)
    · refine g_aload_n (i := 0) (pc1 := 13) dX7_draw_12 rfl rfl rfl ?_
      refine g_get (pc1 := 16) dX7_draw_13 rfl flX7_10 rfl rfl ?_
      refine g_iload_n (i := 1) (pc1 := 17) dX7_draw_16 rfl rfl rfl ?_
      refine g_iload_n (i := 2) (pc1 := 18) dX7_draw_17 rfl rfl rfl ?_
      refine g_V2 (M := mX2_drawEdges) (pc1 := 21) dX7_draw_18 rfl lkX7_85 tmX2_drawEdges rfl (c_drawEdges G K S L1 U L2 L3 C P r hn h2.1 seed part) (Nat.le_of_ble_eq_true rfl) rfl (Nat.le_of_ble_eq_true rfl) (Nat.le_of_ble_eq_true rfl) ?_
      rintro _ _ ⟨rfl, nr, hnr, rfl⟩
      show aGo _ 21 _ [] _ _ _
      refine g_aload_n (i := 0) (pc1 := 22) dX7_draw_21 rfl rfl rfl ?_
      refine g_get (pc1 := 25) dX7_draw_22 rfl flX7_39 rfl rfl ?_
      refine g_V0 (M := mX5_forget) (pc1 := 28) dX7_draw_25 rfl lkX7_70 tmX5_forget rfl (c_forget K S L1 U L2 L3 C P r (G.1, nr, G.2.2)) (Nat.le_of_ble_eq_true rfl) rfl (Nat.le_of_ble_eq_true rfl) (Nat.le_of_ble_eq_true rfl) ?_
      rintro _ _ ⟨rfl, rfl⟩
      show aGo _ 28 _ [] _ _ _
      refine g_aload_n (i := 0) (pc1 := 29) dX7_draw_28 rfl rfl rfl ?_
      refine g_get (pc1 := 32) dX7_draw_29 rfl flX7_10 rfl rfl ?_
      refine g_V0 (M := mX2_edges) (pc1 := 35) dX7_draw_32 rfl lkX7_88 tmX2_edges rfl (c_edges (G.1, nr, G.2.2) K S L1 (0, U.2.1, U.2.2.1, U.2.2.2) L2 L3 C P r hnr (drA_ok hn)) (Nat.le_of_ble_eq_true rfl) rfl (Nat.le_of_ble_eq_true rfl) (Nat.le_of_ble_eq_true rfl) ?_
      rintro _ _ ⟨rfl, rfl⟩
      refine g_iret dX7_draw_35 rfl rfl (Nat.le_of_ble_eq_true rfl) (Nat.le_of_ble_eq_true rfl) ?_
      exact cQ.mk (σ := (σ.1, drA seed part σ.1, none, σ.2.2.2)) (by unfold spDraw; rw [if_pos ⟨Int32.not_lt.mp c1, c2⟩]) ⟨drA_ok hn, hnr, rfl, h4, h5⟩
    · refine g_iconst (v := (-1)) (pc1 := 11) dX7_draw_10 rfl (by decide) ?_
      refine g_iret dX7_draw_11 rfl rfl (Nat.le_of_ble_eq_true rfl) (Nat.le_of_ble_eq_true rfl) ?_
      exact cQ.mk (by unfold spDraw; rw [if_neg (fun q => c2 q.2)]) hh
theorem f_turn (h : cSt σ G U L2 L3 P) (f s : Int32) : aRet 3 0 0 mX7_turn [.ref 0, .int f, .int s] (cp G K S L1 U L2 L3 C P r) (cQ (spTurn f s σ) r) := by
  have hh := h
  obtain ⟨h1, h2, h3, h4, h5⟩ := h
  have hn := h1.1
  refine aRet.of (by decide) (Nat.le_of_ble_eq_true rfl) (a_ok2 rfl) ?_
  refine g_aload_n (i := 0) (pc1 := 1) dX7_turn_0 rfl rfl rfl ?_
  refine g_get (pc1 := 4) dX7_turn_1 rfl flX7_10 rfl rfl ?_
  refine g_iload_n (i := 2) (pc1 := 5) dX7_turn_4 rfl rfl rfl ?_
  refine g_V1 (M := mX2_isVertex) (pc1 := 8) dX7_turn_5 rfl lkX7_73 tmX2_isVertex rfl (c_isVertex G K S L1 U L2 L3 C P r σ.1 hn h2.1 s) (Nat.le_of_ble_eq_true rfl) rfl (Nat.le_of_ble_eq_true rfl) (Nat.le_of_ble_eq_true rfl) ?_
  rintro _ _ ⟨rfl, rfl⟩
  refine g_if_eq (pc1 := 11) (tgt := 33) dX7_turn_8 rfl (by decide) (fun c1 => ?_) (fun c1 => ?_)
  · rw [bI_eq0] at c1
    refine g_iconst (v := (-1)) (pc1 := 34) dX7_turn_33 rfl (by decide) ?_
    refine g_iret dX7_turn_34 rfl rfl (Nat.le_of_ble_eq_true rfl) (Nat.le_of_ble_eq_true rfl) ?_
    exact cQ.mk (by unfold spTurn; rw [if_neg (fun q => by rw [show vtx σ.1 s = false from c1] at q; cases q.1)]) hh
  · rw [bI_ne0] at c1
    refine g_iload_n (i := 1) (pc1 := 12) dX7_turn_11 rfl rfl rfl ?_
    refine g_iconst (v := 1) (pc1 := 13) dX7_turn_12 rfl (by decide) ?_
    refine g_icmp_lt (pc1 := 16) (tgt := 33) dX7_turn_13 rfl (by decide) (fun c2 => ?_) (fun c2 => ?_)
    · refine g_iconst (v := (-1)) (pc1 := 34) dX7_turn_33 rfl (by decide) ?_
      refine g_iret dX7_turn_34 rfl rfl (Nat.le_of_ble_eq_true rfl) (Nat.le_of_ble_eq_true rfl) ?_
      exact cQ.mk (by unfold spTurn; rw [if_neg (fun q => absurd c2 (Int32.not_lt.mpr q.2.1.1))]) hh
    · refine g_iload_n (i := 1) (pc1 := 17) dX7_turn_16 rfl rfl rfl ?_
      refine g_bipush (v := 30) (pc1 := 19) dX7_turn_17 rfl (by decide) ?_
      refine g_icmp_gt (pc1 := 22) (tgt := 33) dX7_turn_19 rfl (by decide) (fun c3 => ?_) (fun c3 => ?_)
      · refine g_iconst (v := (-1)) (pc1 := 34) dX7_turn_33 rfl (by decide) ?_
        refine g_iret dX7_turn_34 rfl rfl (Nat.le_of_ble_eq_true rfl) (Nat.le_of_ble_eq_true rfl) ?_
        exact cQ.mk (by unfold spTurn; rw [if_neg (fun q => absurd c3 (Int32.not_lt.mpr q.2.1.2))]) hh
      · have hf1 := Int32.not_lt.mp c2
        have hf2 := Int32.not_lt.mp c3
        obtain ⟨j, hj, rfl⟩ := i30.mp ⟨Int32.le_trans (by decide) hf1, hf2⟩
        obtain ⟨w, hw, rfl⟩ := (vtx_iff hn).mp c1
        have hj1 : 1 ≤ j := (nI_leI (a := 1) (b := j) (by omega) (by omega)).mp hf1
        have ej : (nI j).toNatClampNeg = j := nI_clamp (by omega)
        have ew : (nI w).toNatClampNeg = w := nI_clamp (by omega)
        refine g_aload_n (i := 0) (pc1 := 23) dX7_turn_22 rfl rfl rfl ?_
        refine g_get (pc1 := 26) dX7_turn_23 rfl flX7_10 rfl rfl ?_
        refine g_iload_n (i := 1) (pc1 := 27) dX7_turn_26 rfl rfl rfl ?_
        refine g_V1 (M := mX2_sharesDivisor) (pc1 := 30) dX7_turn_27 rfl lkX7_92 tmX2_sharesDivisor rfl (c_sharesDivisor G K S L1 U L2 L3 C P r hn hj1 hj h2.1) (Nat.le_of_ble_eq_true rfl) rfl (Nat.le_of_ble_eq_true rfl) (Nat.le_of_ble_eq_true rfl) ?_
        rintro _ _ ⟨rfl, rfl⟩
        refine g_if_eq (pc1 := 33) (tgt := 35) dX7_turn_30 rfl (by decide) (fun c4 => ?_) (fun c4 => ?_)
        · rw [bI_eq0] at c4
          have hsp : spTurn (nI j) (nI w) σ = (1, (σ.1, tnA σ.2.1 σ.1 j w, none, σ.2.2.2)) := by unfold spTurn; rw [ej, ew, if_pos ⟨c1, ⟨hf1, hf2⟩, c4⟩]
          have hp := sgP_of (s := w) (by omega) hj1 c4
          refine g_aload_n (i := 0) (pc1 := 36) dX7_turn_35 rfl rfl rfl ?_
          refine g_get (pc1 := 39) dX7_turn_36 rfl flX7_10 rfl rfl ?_
          refine g_iload_n (i := 1) (pc1 := 40) dX7_turn_39 rfl rfl rfl ?_
          refine g_iload_n (i := 2) (pc1 := 41) dX7_turn_40 rfl rfl rfl ?_
          refine g_V2 (M := mX2_renumber) (pc1 := 44) dX7_turn_41 rfl lkX7_95 tmX2_renumber rfl (c_renumber G K S L1 U L2 L3 C P r h2 h1 (by omega) hj (by omega) hp) (Nat.le_of_ble_eq_true rfl) rfl (Nat.le_of_ble_eq_true rfl) (Nat.le_of_ble_eq_true rfl) ?_
          rintro _ _ ⟨rfl, nr, tn, hnr, rfl⟩
          show aGo _ 44 _ [] _ _ _
          refine g_aload_n (i := 0) (pc1 := 45) dX7_turn_44 rfl rfl rfl ?_
          refine g_get (pc1 := 48) dX7_turn_45 rfl flX7_39 rfl rfl ?_
          refine g_V0 (M := mX5_forget) (pc1 := 51) dX7_turn_48 rfl lkX7_70 tmX5_forget rfl (c_forget K S L1 U L2 L3 C P r (G.1, nr, tn)) (Nat.le_of_ble_eq_true rfl) rfl (Nat.le_of_ble_eq_true rfl) (Nat.le_of_ble_eq_true rfl) ?_
          rintro _ _ ⟨rfl, rfl⟩
          show aGo _ 51 _ [] _ _ _
          refine g_iconst (v := 1) (pc1 := 52) dX7_turn_51 rfl (by decide) ?_
          refine g_iret dX7_turn_52 rfl rfl (Nat.le_of_ble_eq_true rfl) (Nat.le_of_ble_eq_true rfl) ?_
          exact cQ.mk hsp ⟨tnA_ok h1 (by omega) hp, hnr, rfl, h4, h5⟩
        · rw [bI_ne0] at c4
          refine g_iconst (v := (-1)) (pc1 := 34) dX7_turn_33 rfl (by decide) ?_
          refine g_iret dX7_turn_34 rfl rfl (Nat.le_of_ble_eq_true rfl) (Nat.le_of_ble_eq_true rfl) ?_
          exact cQ.mk (by unfold spTurn; rw [ej, if_neg (fun q => by rw [c4] at q; cases q.2.2)]) hh
theorem f_count (h : cSt σ G U L2 L3 P) (w : Int32) : aRet 3 0 0 mX7_count [.ref 0, .int w] (cp G K S L1 U L2 L3 C P r) (cQ (spCount w σ) r) := by
  have hh := h
  obtain ⟨h1, h2, h3, h4, h5⟩ := h
  have hn := h1.1
  refine aRet.of (by decide) (Nat.le_of_ble_eq_true rfl) (a_ok2 rfl) ?_
  refine g_iload_n (i := 1) (pc1 := 1) dX7_count_0 rfl rfl rfl ?_
  by_cases e0 : w = 0
  · subst e0
    refine g_tableIn (tgt := 28) dX7_count_1 (by decide) (by decide) rfl (by decide) ?_
    refine g_aload_n (i := 0) (pc1 := 29) dX7_count_28 rfl rfl rfl ?_
    refine g_get (pc1 := 32) dX7_count_29 rfl flX7_10 rfl rfl ?_
    refine g_get (pc1 := 35) dX7_count_32 rfl flX7_98 rfl rfl ?_
    rw [h2.1]
    refine g_iret dX7_count_35 rfl rfl (Nat.le_of_ble_eq_true rfl) (Nat.le_of_ble_eq_true rfl) ?_
    exact cQ.mk rfl hh
  · by_cases e1 : w = 1
    · subst e1
      refine g_tableIn (tgt := 36) dX7_count_1 (by decide) (by decide) rfl (by decide) ?_
      refine g_aload_n (i := 0) (pc1 := 37) dX7_count_36 rfl rfl rfl ?_
      refine g_get (pc1 := 40) dX7_count_37 rfl flX7_10 rfl rfl ?_
      refine g_V0 (M := mX2_edges) (pc1 := 43) dX7_count_40 rfl lkX7_88 tmX2_edges rfl (c_edges G K S L1 U L2 L3 C P r h2 h1) (Nat.le_of_ble_eq_true rfl) rfl (Nat.le_of_ble_eq_true rfl) (Nat.le_of_ble_eq_true rfl) ?_
      rintro _ _ ⟨rfl, rfl⟩
      refine g_iret dX7_count_43 rfl rfl (Nat.le_of_ble_eq_true rfl) (Nat.le_of_ble_eq_true rfl) ?_
      exact cQ.mk rfl hh
    · by_cases e2 : w = 2
      · subst e2
        refine g_tableIn (tgt := 44) dX7_count_1 (by decide) (by decide) rfl (by decide) ?_
        refine g_aload_n (i := 0) (pc1 := 45) dX7_count_44 rfl rfl rfl ?_
        refine g_get (pc1 := 48) dX7_count_45 rfl flX7_10 rfl rfl ?_
        refine g_V0 (M := mX2_greatestDegree) (pc1 := 51) dX7_count_48 rfl lkX7_102 tmX2_greatestDegree rfl (c_greatestDegree G K S L1 U L2 L3 C P r h2 h1) (Nat.le_of_ble_eq_true rfl) rfl (Nat.le_of_ble_eq_true rfl) (Nat.le_of_ble_eq_true rfl) ?_
        rintro _ _ ⟨rfl, rfl⟩
        refine g_iret dX7_count_51 rfl rfl (Nat.le_of_ble_eq_true rfl) (Nat.le_of_ble_eq_true rfl) ?_
        exact cQ.mk rfl hh
      · have b0 : ¬ w.toInt = 0 := fun q => e0 (Int32.toInt_inj.mp (by rw [q]; decide))
        have b1 : ¬ w.toInt = 1 := fun q => e1 (Int32.toInt_inj.mp (by rw [q]; decide))
        have b2 : ¬ w.toInt = 2 := fun q => e2 (Int32.toInt_inj.mp (by rw [q]; decide))
        refine g_tableOut (tgt := 52) dX7_count_1 (by omega) (by decide) ?_
        refine g_iconst (v := (-1)) (pc1 := 53) dX7_count_52 rfl (by decide) ?_
        refine g_iret dX7_count_53 rfl rfl (Nat.le_of_ble_eq_true rfl) (Nat.le_of_ble_eq_true rfl) ?_
        exact cQ.mk (by unfold spCount; rw [if_neg e0, if_neg e1, if_neg e2]) hh
theorem f_has (h : cSt σ G U L2 L3 P) (a b : Int32) : aRet 2 0 0 mX7_has [.ref 0, .int a, .int b] (cp G K S L1 U L2 L3 C P r) (cQ (spHas a b σ) r) := by
  have hh := h
  obtain ⟨h1, h2, h3, h4, h5⟩ := h
  have hn := h1.1
  refine aRet.of (by decide) (Nat.le_of_ble_eq_true rfl) (a_ok2 rfl) ?_
  refine g_aload_n (i := 0) (pc1 := 1) dX7_has_0 rfl rfl rfl ?_
  refine g_get (pc1 := 4) dX7_has_1 rfl flX7_10 rfl rfl ?_
  refine g_iload_n (i := 1) (pc1 := 5) dX7_has_4 rfl rfl rfl ?_
  refine g_V1 (M := mX2_isVertex) (pc1 := 8) dX7_has_5 rfl lkX7_73 tmX2_isVertex rfl (c_isVertex G K S L1 U L2 L3 C P r σ.1 hn h2.1 a) (Nat.le_of_ble_eq_true rfl) rfl (Nat.le_of_ble_eq_true rfl) (Nat.le_of_ble_eq_true rfl) ?_
  rintro _ _ ⟨rfl, rfl⟩
  refine g_if_eq (pc1 := 11) (tgt := 38) dX7_has_8 rfl (by decide) (fun c1 => ?_) (fun c1 => ?_)
  · rw [bI_eq0] at c1
    refine g_iconst (v := 0) (pc1 := 39) dX7_has_38 rfl (by decide) ?_
    refine g_iret dX7_has_39 rfl (bI_nar false) (Nat.le_of_ble_eq_true rfl) (Nat.le_of_ble_eq_true rfl) ?_
    exact cQ.mk (by unfold spHas; rw [show vtx σ.1 a = false from c1]; rfl) hh
  · rw [bI_ne0] at c1
    refine g_aload_n (i := 0) (pc1 := 12) dX7_has_11 rfl rfl rfl ?_
    refine g_get (pc1 := 15) dX7_has_12 rfl flX7_10 rfl rfl ?_
    refine g_iload_n (i := 2) (pc1 := 16) dX7_has_15 rfl rfl rfl ?_
    refine g_V1 (M := mX2_isVertex) (pc1 := 19) dX7_has_16 rfl lkX7_73 tmX2_isVertex rfl (c_isVertex G K S L1 U L2 L3 C P r σ.1 hn h2.1 b) (Nat.le_of_ble_eq_true rfl) rfl (Nat.le_of_ble_eq_true rfl) (Nat.le_of_ble_eq_true rfl) ?_
    rintro _ _ ⟨rfl, rfl⟩
    refine g_if_eq (pc1 := 22) (tgt := 38) dX7_has_19 rfl (by decide) (fun c2 => ?_) (fun c2 => ?_)
    · rw [bI_eq0] at c2
      refine g_iconst (v := 0) (pc1 := 39) dX7_has_38 rfl (by decide) ?_
      refine g_iret dX7_has_39 rfl (bI_nar false) (Nat.le_of_ble_eq_true rfl) (Nat.le_of_ble_eq_true rfl) ?_
      exact cQ.mk (by unfold spHas; rw [show vtx σ.1 b = false from c2]; simp; rfl) hh
    · rw [bI_ne0] at c2
      obtain ⟨u, hu, rfl⟩ := (vtx_iff hn).mp c1
      obtain ⟨w, hw, rfl⟩ := (vtx_iff hn).mp c2
      have hsp : spHas (nI u) (nI w) σ = (bI (σ.2.1 u w), σ) := by unfold spHas; rw [show vtx σ.1 (nI u) = true from c1, show vtx σ.1 (nI w) = true from c2, nI_clamp (by omega), nI_clamp (by omega)]; rfl
      refine g_aload_n (i := 0) (pc1 := 23) dX7_has_22 rfl rfl rfl ?_
      refine g_get (pc1 := 26) dX7_has_23 rfl flX7_10 rfl rfl ?_
      refine g_iload_n (i := 1) (pc1 := 27) dX7_has_26 rfl rfl rfl ?_
      refine g_iload_n (i := 2) (pc1 := 28) dX7_has_27 rfl rfl rfl ?_
      refine g_V2 (M := mX2_joined) (pc1 := 31) dX7_has_28 rfl lkX7_77 tmX2_joined rfl (c_joined G K S L1 U L2 L3 C P r h2 (a := u) (b := w) (by omega) (by omega)) (Nat.le_of_ble_eq_true rfl) rfl (Nat.le_of_ble_eq_true rfl) (Nat.le_of_ble_eq_true rfl) ?_
      rintro _ _ ⟨rfl, rfl⟩
      refine g_if_eq (pc1 := 34) (tgt := 38) dX7_has_31 rfl (by decide) (fun c3 => ?_) (fun c3 => ?_)
      · rw [bI_eq0] at c3
        refine g_iconst (v := 0) (pc1 := 39) dX7_has_38 rfl (by decide) ?_
        refine g_iret dX7_has_39 rfl (bI_nar false) (Nat.le_of_ble_eq_true rfl) (Nat.le_of_ble_eq_true rfl) ?_
        exact cQ.mk (by rw [hsp, c3]; rfl) hh
      · rw [bI_ne0] at c3
        refine g_iconst (v := 1) (pc1 := 35) dX7_has_34 rfl (by decide) ?_
        refine g_goto (tgt := 39) dX7_has_35 (by decide) ?_
        refine g_iret dX7_has_39 rfl (bI_nar true) (Nat.le_of_ble_eq_true rfl) (Nat.le_of_ble_eq_true rfl) ?_
        exact cQ.mk (by rw [hsp, c3]; rfl) hh
theorem f_degree (h : cSt σ G U L2 L3 P) (v : Int32) : aRet 2 0 0 mX7_degree [.ref 0, .int v] (cp G K S L1 U L2 L3 C P r) (cQ (spDegree v σ) r) := by
  have hh := h
  obtain ⟨h1, h2, h3, h4, h5⟩ := h
  have hn := h1.1
  refine aRet.of (by decide) (Nat.le_of_ble_eq_true rfl) (a_ok2 rfl) ?_
  refine g_aload_n (i := 0) (pc1 := 1) dX7_degree_0 rfl rfl rfl ?_
  refine g_get (pc1 := 4) dX7_degree_1 rfl flX7_10 rfl rfl ?_
  refine g_iload_n (i := 1) (pc1 := 5) dX7_degree_4 rfl rfl rfl ?_
  refine g_V1 (M := mX2_isVertex) (pc1 := 8) dX7_degree_5 rfl lkX7_73 tmX2_isVertex rfl (c_isVertex G K S L1 U L2 L3 C P r σ.1 hn h2.1 v) (Nat.le_of_ble_eq_true rfl) rfl (Nat.le_of_ble_eq_true rfl) (Nat.le_of_ble_eq_true rfl) ?_
  rintro _ _ ⟨rfl, rfl⟩
  refine g_if_eq (pc1 := 11) (tgt := 22) dX7_degree_8 rfl (by decide) (fun c1 => ?_) (fun c1 => ?_)
  · rw [bI_eq0] at c1
    refine g_iconst (v := (-1)) (pc1 := 23) dX7_degree_22 rfl (by decide) ?_
    refine g_iret dX7_degree_23 rfl rfl (Nat.le_of_ble_eq_true rfl) (Nat.le_of_ble_eq_true rfl) ?_
    exact cQ.mk (by unfold spDegree; rw [show vtx σ.1 v = false from c1]; rfl) hh
  · rw [bI_ne0] at c1
    obtain ⟨u, hu, rfl⟩ := (vtx_iff hn).mp c1
    refine g_aload_n (i := 0) (pc1 := 12) dX7_degree_11 rfl rfl rfl ?_
    refine g_get (pc1 := 15) dX7_degree_12 rfl flX7_10 rfl rfl ?_
    refine g_iload_n (i := 1) (pc1 := 16) dX7_degree_15 rfl rfl rfl ?_
    refine g_V1 (M := mX2_degreeOf) (pc1 := 19) dX7_degree_16 rfl lkX7_105 tmX2_degreeOf rfl (c_degreeOf G K S L1 U L2 L3 C P r h2 h1 (v := u) (by omega)) (Nat.le_of_ble_eq_true rfl) rfl (Nat.le_of_ble_eq_true rfl) (Nat.le_of_ble_eq_true rfl) ?_
    rintro _ _ ⟨rfl, rfl⟩
    refine g_goto (tgt := 23) dX7_degree_19 (by decide) ?_
    refine g_iret dX7_degree_23 rfl rfl (Nat.le_of_ble_eq_true rfl) (Nat.le_of_ble_eq_true rfl) ?_
    exact cQ.mk (by unfold spDegree; rw [if_pos (show vtx σ.1 (nI u) = true from c1), nI_clamp (by omega)]) hh
end
