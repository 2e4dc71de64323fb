/-! ===== sets of numbers below 32 as ints; the JDK's methods ===== -/
def bS1 (p : Nat → Bool) : Nat → Int32
  | 0 => 0
  | n + 1 => bS1 p n ||| (if p n then (1 : Int32) <<< (nI n &&& 31) else 0)
def bS (p : Nat → Bool) : Int32 := bS1 p 32
theorem bt_bS1 (p : Nat → Bool) (i : Nat) : ∀ n, n ≤ 32 → bt (bS1 p n) i = (decide (i < n) && p i)
  | 0, _ => by simp [bS1, b_0]
  | n + 1, h => by
    unfold bS1
    rw [b_or, bt_bS1 p i n (by omega)]
    by_cases hp : p n = true
    · rw [if_pos hp, bt_bit (by omega)]
      by_cases hi : i = n
      · subst hi; simp [hp]
      · by_cases h2 : i < n
        · simp [hi, h2, show i < n + 1 by omega]
        · simp [hi, h2, show ¬ i < n + 1 by omega]
    · rw [if_neg hp, b_0]
      by_cases hi : i = n
      · subst hi; simp [hp]
      · by_cases h2 : i < n
        · simp [h2, show i < n + 1 by omega]
        · simp [h2, show ¬ i < n + 1 by omega]
theorem bt_bS (p : Nat → Bool) (i : Nat) : bt (bS p) i = (decide (i < 32) && p i) := bt_bS1 p i 32 (Nat.le_refl _)
theorem bS_eq {x : Int32} {p : Nat → Bool} (h : ∀ i, i < 32 → bt x i = p i) : x = bS p := b_ext (fun i hi => by rw [bt_bS, h i hi]; simp [hi])
theorem bS_congr {p q : Nat → Bool} (h : ∀ i, i < 32 → p i = q i) : bS p = bS q := bS_eq (fun i hi => by rw [bt_bS, h i hi]; simp [hi])
theorem bS_or (p q : Nat → Bool) : bS p ||| bS q = bS (fun i => p i || q i) := bS_eq (fun i hi => by rw [b_or, bt_bS, bt_bS]; simp [hi])
theorem bS_and (p q : Nat → Bool) : bS p &&& bS q = bS (fun i => p i && q i) := bS_eq (fun i hi => by rw [b_and, bt_bS, bt_bS]; simp [hi])
theorem bS_bit {j : Nat} (hj : j < 32) : (1 : Int32) <<< (nI j &&& 31) = bS (fun i => decide (i = j)) := bS_eq (fun i _ => bt_bit hj i)
theorem bS_not (p : Nat → Bool) : bS p ^^^ (-1) = bS (fun i => !p i) := bS_eq (fun i hi => by rw [bt_not _ hi, bt_bS]; simp [hi])
theorem bS_0 : (0 : Int32) = bS (fun _ => false) := bS_eq (fun i _ => b_0 i)
theorem bS_ones : ∀ n, n ≤ 30 → ((1 : Int32) <<< (nI n &&& 31)) - 1 = bS (fun i => decide (i < n)) := by
  intro n hn
  refine bS_eq (fun i hi => ?_)
  exact (by decide +kernel : ∀ n, n < 31 → ∀ i, i < 32 → bt (((1 : Int32) <<< (nI n &&& 31)) - 1) i = decide (i < n)) n (by omega) i hi
theorem bS_eq0 {p : Nat → Bool} : bS p = 0 ↔ ∀ i, i < 32 → p i = false := by
  constructor
  · intro h i hi
    have h1 := bt_bS p i
    rw [h, b_0] at h1
    simp [hi] at h1
    exact h1
  · intro h
    exact b_ext (fun i hi => by rw [bt_bS, b_0, h i hi]; simp)
theorem bS_inj {p q : Nat → Bool} : bS p = bS q ↔ ∀ i, i < 32 → p i = q i := by
  constructor
  · intro h i hi
    have h1 := bt_bS p i
    rw [h, bt_bS] at h1
    simp [hi] at h1
    exact h1.symm
  · exact bS_congr
theorem cnt_bS (p : Nat → Bool) : cnt (bt (bS p)) 32 = cnt p 32 := cnt_congr (fun i hi => by rw [bt_bS]; simp [hi])
theorem nx_and (a b : Nat) : nI a &&& nI b = nI (a &&& b) := by
  apply Int32.toBitVec_inj.1
  show BitVec.ofNat 32 a &&& BitVec.ofNat 32 b = BitVec.ofNat 32 (a &&& b)
  apply BitVec.eq_of_getLsbD_eq
  intro i hi
  simp [hi]
theorem nI_all (x : Int32) : ∃ X, X < 4294967296 ∧ x = nI X := ⟨x.toBitVec.toNat, x.toBitVec.isLt, Int32.toBitVec_inj.mp (by show x.toBitVec = BitVec.ofNat 32 x.toBitVec.toNat; simp)⟩
theorem bt_nI {X : Nat} (i : Nat) (hi : i < 32) : bt (nI X) i = X.testBit i := by
  show (BitVec.ofNat 32 X).getLsbD i = _
  rw [BitVec.getLsbD_ofNat]
  simp [hi]
theorem pop1 {x : Nat} (hx : x < 4294967296) (h : x / 2 &&& 1431655765 ≤ x) : nI x - (((nI x).toUInt32 >>> ((1 : Int32).toUInt32 &&& Int32.toUInt32 31)).toInt32 &&& 1431655765) = nI (x - (x / 2 &&& 1431655765)) := by
  rw [pk_ushrN hx 1 1 (by decide), show (1431655765 : Int32) = nI 1431655765 from rfl, nx_and, pk_sub h]
theorem pop2 {x : Nat} (hx : x < 4294967296) : (nI x &&& 858993459) + (((nI x).toUInt32 >>> ((2 : Int32).toUInt32 &&& Int32.toUInt32 31)).toInt32 &&& 858993459) = nI ((x &&& 858993459) + (x / 4 &&& 858993459)) := by
  rw [pk_ushrN hx 2 2 (by decide), show (858993459 : Int32) = nI 858993459 from rfl, nx_and, nx_and, nI_add]
theorem pop3 {x : Nat} (hx : x < 4294967296) : (nI x + ((nI x).toUInt32 >>> ((4 : Int32).toUInt32 &&& Int32.toUInt32 31)).toInt32) &&& 252645135 = nI ((x + x / 16) &&& 252645135) := by
  rw [pk_ushrN hx 4 4 (by decide), show (252645135 : Int32) = nI 252645135 from rfl, nI_add, nx_and]
theorem pop4 {x : Nat} (hx : x < 4294967296) : nI x + ((nI x).toUInt32 >>> ((8 : Int32).toUInt32 &&& Int32.toUInt32 31)).toInt32 = nI (x + x / 256) := by
  rw [pk_ushrN hx 8 8 (by decide), nI_add]
theorem pop5 {x : Nat} (hx : x < 4294967296) : nI x + ((nI x).toUInt32 >>> ((16 : Int32).toUInt32 &&& Int32.toUInt32 31)).toInt32 = nI (x + x / 65536) := by
  rw [pk_ushrN hx 16 16 (by decide), nI_add]
theorem pop6 (x : Nat) : nI x &&& 63 = nI (x % 64) := by
  rw [show (63 : Int32) = nI 63 from rfl, nx_and, show (63 : Nat) = 2 ^ 6 - 1 from rfl, Nat.and_two_pow_sub_one_eq_mod]
theorem c_bitCount {h : List aC} (x : Int32) : aRet 0 0 0 mJ6_bitCount_0f7a4 [.int x] h (fun v g => v = some (.int (nI (cnt (bt x) 32))) ∧ g = h) := by
  obtain ⟨X, hX, rfl⟩ := nI_all x
  obtain ⟨x1, e1⟩ : ∃ y, y = X - (X / 2 &&& 1431655765) := ⟨_, rfl⟩
  obtain ⟨x2, e2⟩ : ∃ y, y = (x1 &&& 858993459) + (x1 / 4 &&& 858993459) := ⟨_, rfl⟩
  obtain ⟨x3, e3⟩ : ∃ y, y = (x2 + x2 / 16) &&& 252645135 := ⟨_, rfl⟩
  obtain ⟨x4, e4⟩ : ∃ y, y = x3 + x3 / 256 := ⟨_, rfl⟩
  obtain ⟨x5, e5⟩ : ∃ y, y = x4 + x4 / 65536 := ⟨_, rfl⟩
  obtain ⟨hp, hle, l1, l2, l3, l4, l5⟩ := pop_nat X x1 x2 x3 x4 x5 hX e1 e2 e3 e4 e5
  refine aRet.of (by decide) (Nat.le_of_ble_eq_true rfl) (a_ok2 rfl) ?_
  refine g_iload_n (i := 0) (pc1 := 1) dJ6_bitCount_0f7a4_0 rfl rfl rfl ?_
  refine g_iload_n (i := 0) (pc1 := 2) dJ6_bitCount_0f7a4_1 rfl rfl rfl ?_
  refine g_iconst (v := 1) (pc1 := 3) dJ6_bitCount_0f7a4_2 rfl (by decide) ?_
  refine g_iushr (pc1 := 4) dJ6_bitCount_0f7a4_3 rfl ?_
  refine g_ldcw (pc1 := 7) dJ6_bitCount_0f7a4_4 rfl ctJ6_265 ?_
  refine g_iand (pc1 := 8) dJ6_bitCount_0f7a4_7 rfl ?_
  refine g_isub (pc1 := 9) dJ6_bitCount_0f7a4_8 rfl ?_
  rw [pop1 hX hle, ← e1]
  refine g_istore_n (i := 0) (pc1 := 10) dJ6_bitCount_0f7a4_9 rfl rfl (Nat.le_of_ble_eq_true rfl) ?_
  refine g_iload_n (i := 0) (pc1 := 11) dJ6_bitCount_0f7a4_10 rfl rfl rfl ?_
  refine g_ldcw (pc1 := 14) dJ6_bitCount_0f7a4_11 rfl ctJ6_266 ?_
  refine g_iand (pc1 := 15) dJ6_bitCount_0f7a4_14 rfl ?_
  refine g_iload_n (i := 0) (pc1 := 16) dJ6_bitCount_0f7a4_15 rfl rfl rfl ?_
  refine g_iconst (v := 2) (pc1 := 17) dJ6_bitCount_0f7a4_16 rfl (by decide) ?_
  refine g_iushr (pc1 := 18) dJ6_bitCount_0f7a4_17 rfl ?_
  refine g_ldcw (pc1 := 21) dJ6_bitCount_0f7a4_18 rfl ctJ6_266 ?_
  refine g_iand (pc1 := 22) dJ6_bitCount_0f7a4_21 rfl ?_
  refine g_iadd (pc1 := 23) dJ6_bitCount_0f7a4_22 rfl ?_
  rw [pop2 l1, ← e2]
  refine g_istore_n (i := 0) (pc1 := 24) dJ6_bitCount_0f7a4_23 rfl rfl (Nat.le_of_ble_eq_true rfl) ?_
  refine g_iload_n (i := 0) (pc1 := 25) dJ6_bitCount_0f7a4_24 rfl rfl rfl ?_
  refine g_iload_n (i := 0) (pc1 := 26) dJ6_bitCount_0f7a4_25 rfl rfl rfl ?_
  refine g_iconst (v := 4) (pc1 := 27) dJ6_bitCount_0f7a4_26 rfl (by decide) ?_
  refine g_iushr (pc1 := 28) dJ6_bitCount_0f7a4_27 rfl ?_
  refine g_iadd (pc1 := 29) dJ6_bitCount_0f7a4_28 rfl ?_
  refine g_ldcw (pc1 := 32) dJ6_bitCount_0f7a4_29 rfl ctJ6_267 ?_
  refine g_iand (pc1 := 33) dJ6_bitCount_0f7a4_32 rfl ?_
  rw [pop3 l2, ← e3]
  refine g_istore_n (i := 0) (pc1 := 34) dJ6_bitCount_0f7a4_33 rfl rfl (Nat.le_of_ble_eq_true rfl) ?_
  refine g_iload_n (i := 0) (pc1 := 35) dJ6_bitCount_0f7a4_34 rfl rfl rfl ?_
  refine g_iload_n (i := 0) (pc1 := 36) dJ6_bitCount_0f7a4_35 rfl rfl rfl ?_
  refine g_bipush (v := 8) (pc1 := 38) dJ6_bitCount_0f7a4_36 rfl (by decide) ?_
  refine g_iushr (pc1 := 39) dJ6_bitCount_0f7a4_38 rfl ?_
  refine g_iadd (pc1 := 40) dJ6_bitCount_0f7a4_39 rfl ?_
  rw [pop4 l3, ← e4]
  refine g_istore_n (i := 0) (pc1 := 41) dJ6_bitCount_0f7a4_40 rfl rfl (Nat.le_of_ble_eq_true rfl) ?_
  refine g_iload_n (i := 0) (pc1 := 42) dJ6_bitCount_0f7a4_41 rfl rfl rfl ?_
  refine g_iload_n (i := 0) (pc1 := 43) dJ6_bitCount_0f7a4_42 rfl rfl rfl ?_
  refine g_bipush (v := 16) (pc1 := 45) dJ6_bitCount_0f7a4_43 rfl (by decide) ?_
  refine g_iushr (pc1 := 46) dJ6_bitCount_0f7a4_45 rfl ?_
  refine g_iadd (pc1 := 47) dJ6_bitCount_0f7a4_46 rfl ?_
  rw [pop5 l4, ← e5]
  refine g_istore_n (i := 0) (pc1 := 48) dJ6_bitCount_0f7a4_47 rfl rfl (Nat.le_of_ble_eq_true rfl) ?_
  refine g_iload_n (i := 0) (pc1 := 49) dJ6_bitCount_0f7a4_48 rfl rfl rfl ?_
  refine g_bipush (v := 63) (pc1 := 51) dJ6_bitCount_0f7a4_49 rfl (by decide) ?_
  refine g_iand (pc1 := 52) dJ6_bitCount_0f7a4_51 rfl ?_
  rw [pop6, hp]
  refine g_iret dJ6_bitCount_0f7a4_52 rfl rfl (Nat.le_of_ble_eq_true rfl) (Nat.le_of_ble_eq_true rfl) ?_
  refine ⟨?_, rfl⟩
  rw [cnt_congr (p := bt (nI X)) (q := X.testBit) (fun i hi => bt_nI i hi)]
theorem wM1 : Cond.static Lib.Math.max.name ∈ a_g := tmJ9_max_7cf53.2
theorem wM2 : Cond.initialized "java/lang/Math" ∈ a_g := tmJ9_max_7cf53.1.2.1
theorem wM3 : Cond.code Lib.Math.max.name Lib.Math.max.code 2 (some .int) ∈ a_g := a_in 366 (by decide +kernel) (by decide +kernel)
theorem g_mmax {E : aE} {pc pc1 : Nat} {ls st : List Value} {h : List aC} {c1 s1 : Nat} {idx : Nat} {x y : Int32} (hd : decode (eM E).2.1 pc = .ok (.invokestatic idx, 3)) (hp : pc + 3 = pc1) (hlk : Cond.methodLink (eM E).1.cls idx Lib.Math.max.name ∈ a_g) (hdp : 1 ≤ E.1) (hok : a_ok st = true) (hk : c1 ≤ E.2.1) (hn : s1 ≤ E.2.2.1)
    (k : aGo E pc1 ls (.int (if x < y then y else x) :: st) h c1 s1) : aGo E pc ls (.int y :: .int x :: st) h c1 s1 := by
  subst hp
  intro l z b D cI cZ p e s m args below meth c Qf X F H locs lsA hL hH hS
  have hr := a_room (z := z) (b := b) (a_ok1 hok) (a_ok2 hok)
  exact va_mmax X.1 X.2.1 (by rw [X.2.2.1]; exact hL.1.1.symm) X.2.2.2.1 (X.2.2.2.2.1 _ hlk) (X.2.2.2.2.1 _ wM1) (X.2.2.2.2.1 _ wM2) (X.2.2.2.2.1 _ wM3) hdp (by simp only [a_Rm]; omega) hk hn hd (k l z b D cI cZ p e s m args below meth c Qf X F H locs lsA hL hH hS)
def fil (N : Nat) (x : Int32) (f : fI) : fI := fun i => if i < N then x else f i
set_option maxRecDepth 10000 in
theorem c_fill {h : List aC} {q N : Nat} {f : fI} (hN : N < 10000) (hc : h[q]? = some (.inl (false, N, f))) (x : Int32) : aRet 0 0 0 mJ7_fill_53178 [.ref q, .int x] h (fun v g => v = none ∧ g = h.set q (.inl (false, N, fil N x f))) := by
  have hq := (List.getElem?_eq_some_iff.mp hc).1
  refine aRet.of (by decide) (Nat.le_of_ble_eq_true rfl) (a_ok2 rfl) ?_
  refine g_iconst (v := 0) (pc1 := 1) dJ7_fill_53178_0 rfl (by decide) ?_
  refine g_istore_n (i := 2) (pc1 := 2) dJ7_fill_53178_1 rfl rfl (Nat.le_of_ble_eq_true rfl) ?_
  refine g_aload_n (i := 0) (pc1 := 3) dJ7_fill_53178_2 rfl rfl rfl ?_
  refine g_alen (pc1 := 4) dJ7_fill_53178_3 rfl hc ?_
  refine g_istore_n (i := 3) (pc1 := 5) dJ7_fill_53178_4 rfl rfl (Nat.le_of_ble_eq_true rfl) ?_
  have e0 : h = h.set q (.inl (false, N, fil 0 x f)) := by
    have : fil 0 x f = f := by funext i; simp [fil]
    rw [this]
    refine List.ext_getElem? fun j => ?_
    by_cases hj : q = j
    · subst hj; rw [List.getElem?_set_self hq]; exact hc
    · rw [List.getElem?_set_ne hj]
  refine aGo.eq (h' := h.set q (.inl (false, N, fil 0 x f))) ?_ rfl rfl e0
  refine down0 (P := fun i => aGo _ 5 [.ref q, .int x, .int (nI i), .int (Int32.ofNat N)] [] (h.set q (.inl (false, N, fil i x f))) 0 0) N ?_ ?_
  · refine g_iload_n (i := 2) (pc1 := 6) dJ7_fill_53178_5 rfl rfl rfl ?_
    refine g_iload_n (i := 3) (pc1 := 7) dJ7_fill_53178_6 rfl rfl rfl ?_
    refine g_icmp_ge (pc1 := 10) (tgt := 20) dJ7_fill_53178_7 rfl (by decide) (fun _ => ?_) (fun c => absurd (Int32.le_refl _) c)
    refine g_vret dJ7_fill_53178_20 rfl (Nat.le_of_ble_eq_true rfl) (Nat.le_of_ble_eq_true rfl) ?_
    exact ⟨rfl, rfl⟩
  · intro i hi ih
    refine g_iload_n (i := 2) (pc1 := 6) dJ7_fill_53178_5 rfl rfl rfl ?_
    refine g_iload_n (i := 3) (pc1 := 7) dJ7_fill_53178_6 rfl rfl rfl ?_
    refine g_icmp_ge (pc1 := 10) (tgt := 20) dJ7_fill_53178_7 rfl (by decide) (fun c => absurd c (fun c => absurd ((nI_leI (a := N) (b := i) (by omega) (by omega)).mp c) (by omega))) (fun _ => ?_)
    refine g_aload_n (i := 0) (pc1 := 11) dJ7_fill_53178_10 rfl rfl rfl ?_
    refine g_iload_n (i := 2) (pc1 := 12) dJ7_fill_53178_11 rfl rfl rfl ?_
    refine g_iload_n (i := 1) (pc1 := 13) dJ7_fill_53178_12 rfl rfl rfl ?_
    refine g_iastJ (pc1 := 14) (j := i) dJ7_fill_53178_13 rfl (List.getElem?_set_self hq) rfl hi (by omega) ?_
    refine g_iinc (pc1 := 17) dJ7_fill_53178_14 rfl rfl rfl ?_
    refine g_goto (tgt := 5) dJ7_fill_53178_17 (by decide) ?_
    refine aGo.eq ih ?_ rfl ?_
    · show [Value.ref q, .int x, .int (nI i + Int32.ofInt 1), .int (Int32.ofNat N)] = _
      rw [show nI i + Int32.ofInt 1 = nI (i + 1) from nI_1 i]
    · rw [List.set_set]
      have e5 : upd (fil i x f) i x = fil (i + 1) x f := by
        funext j
        simp only [fil, upd]
        by_cases h1 : j = i
        · subst h1; simp
        · by_cases h2 : j < i
          · simp [h1, h2, show j < i + 1 by omega]
          · simp [h1, h2, show ¬ j < i + 1 by omega]
      rw [e5]
theorem c_firstOnes {h : List aC} {n : Nat} (hn : n ≤ 30) : aRet 0 0 0 mX7_firstOnes [.int (nI n)] h (fun v g => v = some (.int (bS (fun i => decide (i < n)))) ∧ g = h) := by
  refine aRet.of (by decide) (Nat.le_of_ble_eq_true rfl) (a_ok2 rfl) ?_
  refine g_iconst (v := 1) (pc1 := 1) dX7_firstOnes_0 rfl (by decide) ?_
  refine g_iload_n (i := 0) (pc1 := 2) dX7_firstOnes_1 rfl rfl rfl ?_
  refine g_ishl (pc1 := 3) dX7_firstOnes_2 rfl ?_
  refine g_iconst (v := 1) (pc1 := 4) dX7_firstOnes_3 rfl (by decide) ?_
  refine g_isub (pc1 := 5) dX7_firstOnes_4 rfl ?_
  rw [bS_ones n hn]
  refine g_iret dX7_firstOnes_5 rfl rfl (Nat.le_of_ble_eq_true rfl) (Nat.le_of_ble_eq_true rfl) ?_
  exact ⟨rfl, rfl⟩
