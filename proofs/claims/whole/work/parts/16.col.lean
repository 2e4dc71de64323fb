/-! ===== colourings ===== -/
abbrev tCol : Type := Nat → Option Nat
def enO (o : Option Nat) : Int32 := match o with
  | none => -1
  | some c => nI c
def hC (n : Nat) (A : Nat → Nat → Bool) (col : tCol) (v c : Nat) : Bool := ex (fun x => A v x && decide (col x = some c)) n
def sat (n : Nat) (A : Nat → Nat → Bool) (col : tCol) (v : Nat) : Nat := cnt (hC n A col v) 30
def bnN (n : Nat) (A : Nat → Nat → Bool) (col : tCol) (v : Nat) : Nat := cnt (fun w => A v w && (col w).isNone) n
def brP (n : Nat) (col : tCol) : Nat → Bool := fun v => decide (v < n) && (col v).isNone
def cset (col : tCol) (v c : Nat) : tCol := fun w => if w = v then some c else col w
def up1 (u c : Nat) : Nat := if c < u then u else u + 1
/-- of vertices alone, with the colours 0 .. u - 1 -/
def Cok (n : Nat) (col : tCol) (u : Nat) : Prop := (∀ v c, col v = some c → v < n ∧ c < 30) ∧ (∀ c, c < u ↔ ∃ v, col v = some c) ∧ u ≤ cnt (fun v => (col v).isSome) n
def kC (K : tK) (n : Nat) (A : Nat → Nat → Bool) (col : tCol) (u : Nat) : Prop :=
  (∀ v, v < 30 → K.1 v = enO (col v)) ∧ (∀ v, v < 30 → K.2.1 v = bS (hC n A col v)) ∧ (∀ c, c < 30 → K.2.2.1 c = bS (fun v => decide (col v = some c))) ∧ K.2.2.2.1 = bS (brP n col) ∧ K.2.2.2.2 = nI u
def chF (n : Nat) (A : Nat → Nat → Bool) (col : tCol) (v : Nat) : Nat := sat n A col v * 30 + bnN n A col v
def chS (n : Nat) (A : Nat → Nat → Bool) (col : tCol) : Option Nat := amx (brP n col) (chF n A col) n
def foF (n : Nat) (A : Nat → Nat → Bool) (col : tCol) (v : Nat) : Nat := sat n A col v * 30 + dg A n v
theorem cnt_lt {p : Nat → Bool} : ∀ {n i : Nat}, i < n → p i = false → cnt p n < n
  | 0, i, h, _ => absurd h (Nat.not_lt_zero i)
  | n + 1, i, h, hp => by
    unfold cnt
    by_cases hi : i = n
    · subst hi; rw [hp]; have := cnt_le p i; simp; omega
    · have := cnt_lt (n := n) (by omega) hp
      split <;> omega
theorem Cok.out {n u : Nat} {col : tCol} (h : Cok n col u) {v : Nat} (hv : n ≤ v) : col v = none := by
  cases hc : col v with
  | none => rfl
  | some c => have := (h.1 v c hc).1; omega
theorem Cok.le {n u : Nat} {col : tCol} (h : Cok n col u) : u ≤ n := Nat.le_trans h.2.2 (cnt_le _ _)
theorem Cok.lt {n u : Nat} {col : tCol} (h : Cok n col u) {v : Nat} (hv : v < n) (hc : col v = none) : u < n := Nat.lt_of_le_of_lt h.2.2 (cnt_lt hv (by rw [hc]; rfl))
theorem hC_big {n u : Nat} {A : Nat → Nat → Bool} {col : tCol} (h : Cok n col u) {v c : Nat} (hc : u ≤ c) : hC n A col v c = false := by
  refine ex_false.mpr fun i hi => ?_
  by_cases he : col i = some c
  · have := (h.2.1 c).mpr ⟨i, he⟩; omega
  · simp [he]
theorem hC_out {n : Nat} {A : Nat → Nat → Bool} {col : tCol} (hk : Gok n A) {v c : Nat} (hv : n ≤ v) : hC n A col v c = false := ex_false.mpr fun i _ => by rw [hk.out1 hv]; rfl
theorem sat_32 {n u : Nat} {A : Nat → Nat → Bool} {col : tCol} (h : Cok n col u) (hn : n ≤ 30) (v : Nat) : cnt (hC n A col v) 32 = sat n A col v :=
  cnt_more (by omega) (fun i h1 _ => hC_big h (by have := h.le; omega))
theorem sat_le (n : Nat) (A : Nat → Nat → Bool) (col : tCol) (v : Nat) : sat n A col v ≤ 30 := cnt_le _ _
theorem bnN_le (n : Nat) (A : Nat → Nat → Bool) (col : tCol) (v : Nat) : bnN n A col v ≤ n := cnt_le _ _
theorem bnN_lt {n : Nat} {A : Nat → Nat → Bool} (hk : Gok n A) {col : tCol} {v : Nat} (hv : v < n) : bnN n A col v < n := cnt_lt hv (by rw [hk.2.2.1]; rfl)
theorem Cok.none (n : Nat) : Cok n (fun _ => none) 0 := ⟨fun v c h => by simp at h, fun c => ⟨fun h => absurd h (Nat.not_lt_zero c), fun ⟨v, h⟩ => by simp at h⟩, Nat.zero_le _⟩
theorem cnt_set {col : tCol} {v c : Nat} (hc : col v = none) : ∀ {n : Nat}, v < n → cnt (fun w => (cset col v c w).isSome) n = cnt (fun w => (col w).isSome) n + 1
  | 0, h => absurd h (Nat.not_lt_zero v)
  | n + 1, h => by
    unfold cnt
    by_cases hv : v = n
    · subst hv
      have e1 : cnt (fun w => (cset col v c w).isSome) v = cnt (fun w => (col w).isSome) v := cnt_congr (fun i hi => by simp [cset, show i ≠ v by omega])
      rw [e1]
      simp [cset, hc]
    · rw [cnt_set hc (n := n) (by omega)]
      simp only [cset, if_neg (Ne.symm hv)]
      omega
theorem Cok.set {n u : Nat} {col : tCol} (h : Cok n col u) {v c : Nat} (hv : v < n) (hn : col v = Option.none) (hc : c ≤ u) (hc30 : c < 30) : Cok n (cset col v c) (up1 u c) := by
  refine ⟨fun w d hw => ?_, fun d => ?_, ?_⟩
  · unfold cset at hw
    by_cases he : w = v
    · subst he; rw [if_pos rfl] at hw; cases hw; exact ⟨hv, hc30⟩
    · rw [if_neg he] at hw; exact h.1 w d hw
  · constructor
    · intro hd
      by_cases hdc : d = c
      · subst hdc; exact ⟨v, by simp [cset]⟩
      · have : d < u := by unfold up1 at hd; split at hd <;> omega
        obtain ⟨w, hw⟩ := (h.2.1 d).mp this
        refine ⟨w, ?_⟩
        unfold cset
        rw [if_neg (fun e => by rw [e, hn] at hw; cases hw)]
        exact hw
    · rintro ⟨w, hw⟩
      unfold cset at hw
      unfold up1
      by_cases he : w = v
      · subst he; rw [if_pos rfl] at hw; cases hw
        split <;> omega
      · rw [if_neg he] at hw
        have := (h.2.1 d).mpr ⟨w, hw⟩
        split <;> omega
  · rw [cnt_set hn hv]
    have := h.2.2
    unfold up1
    split <;> omega
theorem hC_set {n : Nat} {A : Nat → Nat → Bool} {col : tCol} {v c w d : Nat} (hv : v < n) (hn : col v = Option.none) : hC n A (cset col v c) w d = (hC n A col w d || (A w v && decide (d = c))) := by
  unfold hC
  cases h : ex (fun x => A w x && decide (col x = some d)) n with
  | true =>
    obtain ⟨x, h1, h2⟩ := ex_iff.mp h
    simp only [Bool.and_eq_true, decide_eq_true_eq] at h2
    rw [ex_iff.mpr ⟨x, h1, ?_⟩]
    · simp
    · have : x ≠ v := fun e => by rw [e, hn] at h2; cases h2.2
      simp [cset, this, h2.1, h2.2]
  | false =>
    have h0 := ex_false.mp h
    by_cases h3 : A w v = true ∧ d = c
    · obtain ⟨h4, rfl⟩ := h3
      rw [ex_iff.mpr ⟨v, hv, by simp [cset, h4]⟩, h4]; simp
    · rw [ex_false.mpr fun x hx => ?_]
      · have : (A w v && decide (d = c)) = false := by
          simp only [Bool.and_eq_false_iff, decide_eq_false_iff_not]
          by_cases h5 : A w v = true
          · right; exact fun e => h3 ⟨h5, e⟩
          · left; simpa using h5
        rw [this]; rfl
      · by_cases hxv : x = v
        · subst hxv
          have : (A w x && decide (d = c)) = false := by
            simp only [Bool.and_eq_false_iff, decide_eq_false_iff_not]
            by_cases h5 : A w x = true
            · right; exact fun e => h3 ⟨h5, e⟩
            · left; simpa using h5
          simp only [cset, if_pos]
          simp only [Bool.and_eq_false_iff, decide_eq_false_iff_not] at this ⊢
          rcases this with h6 | h6
          · left; exact h6
          · right; exact fun e => h6 (Option.some.inj e).symm
        · have := h0 x hx
          simpa [cset, hxv] using this
/-- the colours of vertices without and with one more -/
theorem brP_set {n : Nat} {col : tCol} {v c : Nat} (w : Nat) : brP n (cset col v c) w = (brP n col w && !decide (w = v)) := by
  unfold brP cset
  by_cases h : w = v
  · subst h; simp
  · simp [h]
theorem ex_none {n u : Nat} {col : tCol} (h : Cok n col u) (c : Nat) : bS (fun v => decide (col v = some c)) = 0 → (n ≤ 32) → ¬ c < u := by
  intro h0 hn hc
  obtain ⟨v, hv⟩ := (h.2.1 c).mp hc
  have := bS_eq0.mp h0 v (by have := (h.1 v c hv).1; omega)
  simp [hv] at this
theorem ex_some {n u : Nat} {col : tCol} (h : Cok n col u) (c : Nat) : ¬ bS (fun v => decide (col v = some c)) = 0 → c < u := by
  intro h0
  refine Classical.byContradiction fun hc => h0 (bS_eq0.mpr fun v _ => ?_)
  refine decide_eq_false fun e => hc ((h.2.1 c).mpr ⟨v, e⟩)
