/-! ===== Int32 by its bits: bt x i ===== -/
def bt (x : Int32) (i : Nat) : Bool := x.toBitVec.getLsbD i
theorem b_ext {x y : Int32} (h : ∀ i, i < 32 → bt x i = bt y i) : x = y := Int32.toBitVec_inj.mp (BitVec.eq_of_getLsbD_eq (fun i hi => h i hi))
theorem b_or (x y : Int32) (i : Nat) : bt (x ||| y) i = (bt x i || bt y i) := by unfold bt; rw [Int32.toBitVec_or, BitVec.getLsbD_or]
theorem b_and (x y : Int32) (i : Nat) : bt (x &&& y) i = (bt x i && bt y i) := by unfold bt; rw [Int32.toBitVec_and, BitVec.getLsbD_and]
theorem b_xor (x y : Int32) (i : Nat) : bt (x ^^^ y) i = (bt x i ^^ bt y i) := by unfold bt; rw [Int32.toBitVec_xor, BitVec.getLsbD_xor]
theorem b_big {x : Int32} {i : Nat} (h : 32 ≤ i) : bt x i = false := BitVec.getLsbD_of_ge _ _ h
theorem b_255 (i : Nat) : bt 255 i = decide (i < 8) := by
  rcases Nat.lt_or_ge i 32 with h | h
  · exact (by decide +kernel : ∀ i, i < 32 → bt 255 i = decide (i < 8)) i h
  · rw [b_big h, decide_eq_false (by omega)]
theorem b_65535 (i : Nat) : bt 65535 i = decide (i < 16) := by
  rcases Nat.lt_or_ge i 32 with h | h
  · exact (by decide +kernel : ∀ i, i < 32 → bt 65535 i = decide (i < 16)) i h
  · rw [b_big h, decide_eq_false (by omega)]
theorem b_m1 : ∀ i, i < 32 → bt (-1) i = true := by decide +kernel
theorem b_0 (i : Nat) : bt 0 i = false := BitVec.getLsbD_zero
theorem s_l : ∀ n, n < 32 → ((nI n &&& 31).toBitVec.smod 32).toNat = n := by decide +kernel
theorem s_u : ∀ n, n < 32 → (((nI n).toUInt32 &&& Int32.toUInt32 31).toBitVec % 32).toNat = n := by decide +kernel
theorem b_shl (n : Nat) (hn : n < 32) (x : Int32) {i : Nat} (hi : i < 32) : bt (x <<< (nI n &&& 31)) i = (decide (n ≤ i) && bt x (i - n)) := by
  unfold bt
  rw [Int32.toBitVec_shiftLeft]
  show (x.toBitVec <<< ((nI n &&& 31).toBitVec.smod 32).toNat).getLsbD i = _
  rw [s_l n hn, BitVec.getLsbD_shiftLeft]
  rcases Nat.lt_or_ge i n with h | h
  · simp [h, Nat.not_le.mpr h]
  · simp [hi, h, Nat.not_lt.mpr h]
theorem b_ushr (n : Nat) (hn : n < 32) (x : Int32) (i : Nat) : bt ((x.toUInt32 >>> ((nI n).toUInt32 &&& Int32.toUInt32 31)).toInt32) i = bt x (n + i) := by
  show (x.toUInt32 >>> ((nI n).toUInt32 &&& Int32.toUInt32 31)).toBitVec.getLsbD i = x.toUInt32.toBitVec.getLsbD (n + i)
  rw [UInt32.toBitVec_shiftRight]
  show (x.toUInt32.toBitVec >>> (((nI n).toUInt32 &&& Int32.toUInt32 31).toBitVec % 32).toNat).getLsbD i = _
  rw [s_u n hn, BitVec.getLsbD_ushiftRight]
theorem b_sshr (n : Nat) (hn : n < 32) (x : Int32) {i : Nat} (hi : i < 32) : bt (x >>> (nI n &&& 31)) i = if n + i < 32 then bt x (n + i) else bt x 31 := by
  unfold bt
  rw [Int32.toBitVec_shiftRight]
  show (x.toBitVec.sshiftRight ((nI n &&& 31).toBitVec.smod 32).toNat).getLsbD i = _
  rw [s_l n hn, BitVec.getLsbD_sshiftRight, BitVec.msb_eq_getLsbD_last]
  simp [hi]

/-! ===== helpers of the walks ===== -/
theorem down {P : Nat → Prop} {n : Nat} (h0 : P n) (hs : ∀ i, i < n → P (i + 1) → P i) : ∀ i, i ≤ n → P i := by
  have key : ∀ k i, i + k = n → P i := by
    intro k
    induction k with
    | zero => intro i h; rw [show i = n by omega]; exact h0
    | succ k ih => intro i h; exact hs i (by omega) (ih (i + 1) (by omega))
  intro i h
  exact key (n - i) i (by omega)
theorem down0 {P : Nat → Prop} (n : Nat) (h0 : P n) (hs : ∀ i, i < n → P (i + 1) → P i) : P 0 := down h0 hs 0 (Nat.zero_le n)
def bI (b : Bool) : Int32 := if b then 1 else 0
theorem bI_1 (b : Bool) : bI b &&& 1 = bI b := by cases b <;> decide
theorem bI_nar (b : Bool) : narrow .boolean (.int (bI b)) = .int (bI b) := by cases b <;> decide
theorem bI_eq0 (b : Bool) : bI b = 0 ↔ b = false := by cases b <;> decide
theorem bI_eq1 (b : Bool) : bI b = 1 ↔ b = true := by cases b <;> decide
theorem bI_ne0 (b : Bool) : ¬ bI b = 0 ↔ b = true := by cases b <;> decide
theorem bI_inj {a b : Bool} : bI a = bI b ↔ a = b := by cases a <;> cases b <;> decide
theorem bI_true : bI true = 1 := rfl
theorem bI_false : bI false = 0 := rfl
theorem g_ialdJ {E : aE} {pc pc1 : Nat} {ls st : List Value} {h : List aC} {c1 s1 : Nat} {q n j : Nat} {f : Nat → Int32} {i : Int32} (hd : decode (eM E).2.1 pc = .ok (.iaload, 1)) (hp : pc + 1 = pc1) (hc : h[q]? = some (.inl (false, n, f))) (hi : i = nI j) (hj : j < n) (hn : n < 2 ^ 31)
    (k : aGo E pc1 ls (.int (f j) :: st) h c1 s1) : aGo E pc ls (.int i :: .ref q :: st) h c1 s1 := by
  subst hi
  refine g_iald hd hp hc (vp_in_nI hj hn) ?_
  rw [nI_clamp (by omega)]
  exact k
theorem g_zaldJ {E : aE} {pc pc1 : Nat} {ls st : List Value} {h : List aC} {c1 s1 : Nat} {q n j : Nat} {f : Nat → Int32} {i : Int32} (hd : decode (eM E).2.1 pc = .ok (.baload, 1)) (hp : pc + 1 = pc1) (hc : h[q]? = some (.inl (true, n, f))) (hi : i = nI j) (hj : j < n) (hn : n < 2 ^ 31)
    (k : aGo E pc1 ls (.int (f j) :: st) h c1 s1) : aGo E pc ls (.int i :: .ref q :: st) h c1 s1 := by
  subst hi
  refine g_zald hd hp hc (vp_in_nI hj hn) ?_
  rw [nI_clamp (by omega)]
  exact k
theorem g_iastJ {E : aE} {pc pc1 : Nat} {ls st : List Value} {h : List aC} {c1 s1 : Nat} {q n j : Nat} {f : Nat → Int32} {i x : Int32} (hd : decode (eM E).2.1 pc = .ok (.iastore, 1)) (hp : pc + 1 = pc1) (hc : h[q]? = some (.inl (false, n, f))) (hi : i = nI j) (hj : j < n) (hn : n < 2 ^ 31)
    (k : aGo E pc1 ls st (h.set q (.inl (false, n, upd f j x))) c1 s1) : aGo E pc ls (.int x :: .int i :: .ref q :: st) h c1 s1 := by
  subst hi
  refine g_iast hd hp hc (vp_in_nI hj hn) ?_
  rw [nI_clamp (by omega)]
  exact k
theorem g_zastJ {E : aE} {pc pc1 : Nat} {ls st : List Value} {h : List aC} {c1 s1 : Nat} {q n j : Nat} {f : Nat → Int32} {i x : Int32} (hd : decode (eM E).2.1 pc = .ok (.bastore, 1)) (hp : pc + 1 = pc1) (hc : h[q]? = some (.inl (true, n, f))) (hi : i = nI j) (hj : j < n) (hn : n < 2 ^ 31) (hx : x &&& 1 = x)
    (k : aGo E pc1 ls st (h.set q (.inl (true, n, upd f j x))) c1 s1) : aGo E pc ls (.int x :: .int i :: .ref q :: st) h c1 s1 := by
  subst hi
  refine g_zast hd hp hc (vp_in_nI hj hn) ?_
  rw [nI_clamp (by omega), show vp_nar .boolean x = x from hx]
  exact k
/-- the same numbers under other names -/
theorem aGo.eq {E : aE} {pc : Nat} {ls ls' st st' : List Value} {h h' : List aC} {c1 s1 : Nat} (k : aGo E pc ls' st' h' c1 s1) (e1 : ls = ls') (e2 : st = st') (e3 : h = h') : aGo E pc ls st h c1 s1 := by subst e1; subst e2; subst e3; exact k
theorem aRet.mono {d k n : Nat} {M : aM} {As : List Value} {h : List aC} {Q Q' : aQ} (hR : aRet d k n M As h Q) (hq : ∀ r g, Q r g → Q' r g) : aRet d k n M As h Q' := by
  intro l z b D cI cZ p e ha hc hk s m args below hf happ hpre hK
  obtain ⟨j, o, h1, h2, h3, ⟨⟨⟨r, h', hQ, hv, hW⟩, hF⟩, h4⟩⟩ := hR l z b D cI cZ p e ha hc hk s m args below hf happ hpre hK
  exact ⟨j, o, h1, h2, h3, ⟨⟨⟨r, h', hq r h' hQ, hv, hW⟩, hF⟩, h4⟩⟩
/-- a local that is not needed any more -/
theorem aGo.forget {E : aE} {pc : Nat} {ls st : List Value} {h : List aC} {c1 s1 : Nat} (i : Nat) (k : aGo E pc (ls.set i .null) st h c1 s1) : aGo E pc ls st h c1 s1 := by
  intro l z b D cI cZ p e s m args below meth c Qf X F H locs lsA hL hH hS
  refine k l z b D cI cZ p e s m args below meth c Qf X F H locs lsA ⟨hL.1, by rw [List.length_set]; exact hL.2.1, fun j v hj hv => ?_⟩ hH hS
  by_cases hij : i = j
  · subst hij
    have hl : i < ls.length := by
      have := (List.getElem?_eq_some_iff.mp hj).1
      rwa [List.length_set] at this
    rw [List.getElem?_set_self hl] at hj
    cases hj
    exact absurd rfl hv
  · rw [List.getElem?_set_ne hij] at hj
    exact hL.2.2 j v hj hv
theorem bt_one (i : Nat) : bt 1 i = decide (i = 0) := by
  rcases Nat.lt_or_ge i 32 with h | h
  · exact (by decide +kernel : ∀ i, i < 32 → bt 1 i = decide (i = 0)) i h
  · rw [b_big h, decide_eq_false (by omega)]
theorem bt_bI (b : Bool) (i : Nat) : bt (bI b) i = (b && decide (i = 0)) := by
  cases b
  · simp [bI, b_0]
  · simp [bI, bt_one]
theorem bt_test (x : Int32) {j : Nat} (hj : j < 32) : (x >>> (nI j &&& 31)) &&& 1 = bI (bt x j) := by
  apply b_ext
  intro i hi
  rw [b_and, b_sshr j hj x hi, bt_one, bt_bI]
  by_cases h : i = 0
  · subst h; simp [hj]
  · simp [h]
theorem bt_bit {j : Nat} (hj : j < 32) (i : Nat) : bt ((1 : Int32) <<< (nI j &&& 31)) i = decide (i = j) := by
  rcases Nat.lt_or_ge i 32 with h | h
  · rw [b_shl j hj 1 h, bt_one]
    by_cases h1 : i = j
    · subst h1; simp
    · simp [h1]; omega
  · rw [b_big h, decide_eq_false (by omega)]
theorem bt_not (x : Int32) {i : Nat} (hi : i < 32) : bt (x ^^^ (-1)) i = !bt x i := by
  rw [b_xor, b_m1 i hi]; simp
/-! ===== the cells of the class: where each lies ===== -/
abbrev fI : Type := Nat → Int32
/-- the graph: size, near, turned -/
abbrev tG : Type := Int32 × fI × fI
/-- the colouring: of, seen, bearers, bare, standing -/
abbrev tK : Type := fI × fI × fI × Int32 × Int32
/-- a log: size, ops, numbers -/
abbrev tL : Type := Int32 × fI × fI
/-- the search: k, branches, closes -/
abbrev tS : Type := Int32 × Int32 × Int32
/-- the solution: stands, best, colours, tallies -/
abbrev tU : Type := Int32 × fI × Int32 × fI
def cp (G : tG) (K : tK) (S : tS) (L1 : tL) (U : tU) (L2 L3 : tL) (C : Int32 × Int32) (P : fI) (r : List aC) : List aC :=
  .inr (7, [.ref 1, .ref 4, .ref 8, .ref 12, .ref 18, .ref 21, .ref 22]) ::
  .inr (2, [.int G.1, .ref 2, .ref 3]) :: .inl (false, 30, G.2.1) :: .inl (false, 30, G.2.2) ::
  .inr (1, [.ref 1, .ref 5, .ref 6, .ref 7, .int K.2.2.2.1, .int K.2.2.2.2]) :: .inl (false, 30, K.1) :: .inl (false, 30, K.2.1) :: .inl (false, 30, K.2.2.1) ::
  .inr (4, [.ref 1, .ref 4, .int S.1, .ref 9, .int S.2.1, .int S.2.2]) :: .inr (3, [.int L1.1, .ref 10, .ref 11]) :: .inl (false, 3000, L1.2.1) :: .inl (false, 3000, L1.2.2) ::
  .inr (5, [.ref 1, .ref 4, .ref 8, .int U.1, .ref 13, .int U.2.2.1, .ref 14, .ref 17]) :: .inl (false, 30, U.2.1) :: .inr (3, [.int L2.1, .ref 15, .ref 16]) :: .inl (false, 3000, L2.2.1) :: .inl (false, 3000, L2.2.2) :: .inl (false, 5, U.2.2.2) ::
  .inr (3, [.int L3.1, .ref 19, .ref 20]) :: .inl (false, 3000, L3.2.1) :: .inl (false, 3000, L3.2.2) ::
  .inr (0, [.ref 1, .ref 4, .ref 18, .int C.1, .int C.2]) ::
  .inr (6, [.ref 1, .ref 23]) :: .inl (false, 30, P) :: r
