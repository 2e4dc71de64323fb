/-! System.arraycopy between two arrays of ints; calls by the number of arguments -/
set_option maxHeartbeats 2000000 in
theorem g_copy {E : aE} {pc pc1 : Nat} {ls st : List Value} {h : List aC} {c1 s1 : Nat} {idx q0 q1 n0 n1 : Nat} {f g : Nat → Int32} {sp dp n : Int32} (hd : decode (eM E).2.1 pc = .ok (.invokestatic idx, 3)) (hp : pc + 3 = pc1)
    (hlk : Cond.methodLink (eM E).1.cls idx arraycopyName ∈ a_g) (hnat : Cond.native arraycopyName ∈ a_g) (hsta : Cond.static arraycopyName ∈ a_g) (hini : Cond.initialized "java/lang/System" ∈ a_g)
    (hc0 : h[q0]? = some (.inl (false, n0, f))) (hc1 : h[q1]? = some (.inl (false, n1, g))) (h1 : ¬ sp < 0) (h2 : ¬ dp < 0) (h3 : ¬ n < 0) (h4 : sp.toNatClampNeg + n.toNatClampNeg ≤ n0) (h5 : dp.toNatClampNeg + n.toNatClampNeg ≤ n1)
    (hdp : 2 ≤ E.1) (hst : st.length ≤ 8) (hct : ∀ v ∈ st, v.category = 1)
    (k : aGo E pc1 ls st (h.set q1 (.inl (false, n1, va_cpy f g sp.toNatClampNeg dp.toNatClampNeg n.toNatClampNeg))) c1 s1) : aGo E pc ls (.int n :: .int dp :: .ref q1 :: .int sp :: .ref q0 :: st) h c1 s1 := by
  subst hp
  intro l z b D cI cZ p e s m args below meth c Qf X F H locs lsA hL hH hS
  have nn : ∀ z : Int32, ¬ z < 0 → z.toInt = (z.toNatClampNeg : Int) := by
    intro z hz
    have hz0 : (0 : Int) ≤ z.toInt := by
      have := Int32.not_lt.mp hz
      simpa using Int32.le_iff_toInt_le.mp this
    show z.toInt = ((z.toInt.toNat : Nat) : Int)
    omega
  have hts := X.2.2.2.2.1
  have hr := a_room (z := z) (b := b) hst hct
  have hcell0 : H[z + q0]? = some (vp_cell cI (n0, .inl f)) := hH.2 q0 _ hc0
  have hcell1 : H[z + q1]? = some (vp_cell cI (n1, .inl g)) := hH.2 q1 _ hc1
  intro T hT X1
  obtain ⟨-, k0, hk0, cm0, hkk0⟩ := (X.2.2.2.2.2.2.1.2 0 _ rfl).1 n0 (fun j => .int (f j))
  obtain ⟨-, kg, hkg, cm1, hkk1⟩ := (X.2.2.2.2.2.2.1.2 0 _ rfl).1 n1 (fun j => .int (g j))
  obtain ⟨vm', X', step⟩ := X1.arraycopy X.1 X.2.2.2.1 (hts _ hlk) (hts _ hnat) (hts _ hsta) (hts _ hini) (src := z + q0) (dst := z + q1) (cs := vp_cell cI (n0, .inl f)) (cd := vp_cell cI (n1, .inl g)) (srcPos := sp) (destPos := dp) (n := n) (by rw [hT]; exact hcell0) (by rw [hT]; exact hcell1)
    (fun _ h => by cases h) (fun _ h => by cases h) (fun h => by cases h) (fun h => by cases h) hk0 hkg hkk0 hkk1 (by simp [refKind]) h1 h2 h3
    (by rw [nn sp h1, nn n h3]; show ¬ _ > ((arrV cI n0 (fun j => .int (f j))).slots.size : Int); rw [arrV_size]; omega)
    (by rw [nn dp h2, nn n h3]; show ¬ _ > ((arrV cI n1 (fun j => .int (g j))).slots.size : Int); rw [arrV_size]; omega)
    (fun vm₁ _ i hi => by
      have e : (vp_cell cI (n0, .inl f)).slots.getD (sp.toNatClampNeg + i) .null = .int (f (sp.toNatClampNeg + i)) := by
        show (arrV cI n0 (fun j => .int (f j))).slots.getD _ _ = _
        rw [Array.getD_eq_getD_getElem?, arrV_read _ _ (by omega)]
        rfl
      refine ⟨?_, ?_⟩
      · rw [e]
        rfl
      · rw [e]
        exact trivial)
    (g := F0 m pc lsA (.int n :: .int dp :: .ref (z + q1) :: .int sp :: .ref (z + q0) :: st.map (a_v z b))) rfl (by rw [X.2.2.1]; exact hL.1.1) (rest := st.map (a_v z b)) rfl (by rw [X.2.1]; exact hd) (by simp only [a_Rm]; omega) (by
      have e9 : nativeFrameWords "java/lang/System" "arraycopy" 5 ≤ 60 := by decide +kernel
      simp only [a_Rm]
      show 2 * 0 + _ + _ ≤ _
      omega)
  have e1 : copied (vp_cell cI (n0, .inl f)) (vp_cell cI (n1, .inl g)) sp dp n = vp_cell cI (n1, .inl (va_cpy f g sp.toNatClampNeg dp.toNatClampNeg n.toNatClampNeg)) := va_copied (fun z => .int z) cI cI f g h4
  rw [e1] at X' step
  have hl : z + q1 < H.size := (Array.getElem?_eq_some_iff.mp hcell1).1
  have hheap : ((T.setVm vm').setCell (z + q1) (vp_cell cI (n1, .inl (va_cpy f g sp.toNatClampNeg dp.toNatClampNeg n.toNatClampNeg)))).heap = H.setIfInBounds (z + q1) (vp_cell cI (n1, .inl (va_cpy f g sp.toNatClampNeg dp.toNatClampNeg n.toNatClampNeg))) := by rw [← hT]; rfl
  have oq : ∀ q : Nat, q ≠ z + q1 → (H.setIfInBounds (z + q1) (vp_cell cI (n1, .inl (va_cpy f g sp.toNatClampNeg dp.toNatClampNeg n.toNatClampNeg))))[q]? = H[q]? := fun q hq => by simp [Array.getElem?_setIfInBounds, Ne.symm hq]
  obtain ⟨t, a1, b1⟩ := k l z b D cI cZ p e s m args below meth c Qf X F _ _ lsA hL (hH.set (c1 := .inl (false, n1, va_cpy f g sp.toNatClampNeg dp.toNatClampNeg n.toNatClampNeg)) hc1 (show (H.setIfInBounds (z + q1) _)[z + q1]? = some _ by simp only [Array.getElem?_setIfInBounds]; rw [if_pos trivial, if_pos hl]; rfl) (by simp) oq) ⟨by simp; exact hS.1, fun q g1 g2 => by
      rw [oq q (fun e => g2 (by rw [e]; exact Nat.le_add_right _ _))]
      exact hS.2.1 q g1 g2, fun q hq => by
      rcases List.mem_append.mp hq with h | h
      · exact hS.2.2 q h
      · obtain ⟨zz, -, hz⟩ := List.mem_map.mp h
        rw [← hz]
        exact Nat.le_add_right _ _⟩ _ hheap X'
  exact ⟨t, step t a1, b1⟩
def a_ok (st : List Value) : Bool := Nat.ble st.length 8 && st.all (fun v => v.category == 1)
theorem a_ok1 {st : List Value} (h : a_ok st = true) : st.length ≤ 8 := by
  unfold a_ok at h
  simp only [Bool.and_eq_true] at h
  exact Nat.le_of_ble_eq_true h.1
theorem a_ok2 {st : List Value} (h : a_ok st = true) : ∀ v ∈ st, v.category = 1 := by
  unfold a_ok at h
  simp only [Bool.and_eq_true] at h
  intro v hv
  have := List.all_eq_true.mp h.2 v hv
  simpa using this
theorem g_V0 {E : aE} {pc pc1 : Nat} {ls st : List Value} {h : List aC} {c1 s1 : Nat} {idx d1 : Nat} {M : aM} {Q1 : aQ} {q : Nat} {ci : Nat} {fs : List Value} (hd : decode (eM E).2.1 pc = .ok (.invokevirtual idx, 3)) (hp : pc + 3 = pc1) (hlk : Cond.methodLink (eM E).1.cls idx M.1 ∈ a_g) (hmt : a_mv M ci 0) (hc : h[q]? = some (.inr (ci, fs))) (hM : aRet d1 0 0 M [.ref q] h Q1) (hdp : d1 + 1 ≤ E.1) (hok : a_ok st = true) (hk2 : c1 ≤ E.2.1) (hn2 : s1 ≤ E.2.2.1)
    (k : ∀ (r : Option Value) (h' : List aC), Q1 r h' → aGo E pc1 ls (r.toList ++ st) h' c1 s1) : aGo E pc ls (.ref q :: st) h c1 s1 := by
  exact g_callV (As := []) hd hp hlk hmt rfl hc hM hdp (a_ok1 hok) hk2 hn2 (a_ok2 hok) k
theorem g_V1 {E : aE} {pc pc1 : Nat} {ls st : List Value} {h : List aC} {c1 s1 : Nat} {idx d1 : Nat} {M : aM} {Q1 : aQ} {q : Nat} {ci : Nat} {fs : List Value} {x0 : Value} (hd : decode (eM E).2.1 pc = .ok (.invokevirtual idx, 3)) (hp : pc + 3 = pc1) (hlk : Cond.methodLink (eM E).1.cls idx M.1 ∈ a_g) (hmt : a_mv M ci 1) (hc : h[q]? = some (.inr (ci, fs))) (hM : aRet d1 0 0 M [.ref q, x0] h Q1) (hdp : d1 + 1 ≤ E.1) (hok : a_ok st = true) (hk2 : c1 ≤ E.2.1) (hn2 : s1 ≤ E.2.2.1)
    (k : ∀ (r : Option Value) (h' : List aC), Q1 r h' → aGo E pc1 ls (r.toList ++ st) h' c1 s1) : aGo E pc ls (x0 :: .ref q :: st) h c1 s1 := by
  exact g_callV (As := [x0]) hd hp hlk hmt rfl hc hM hdp (a_ok1 hok) hk2 hn2 (a_ok2 hok) k
theorem g_V2 {E : aE} {pc pc1 : Nat} {ls st : List Value} {h : List aC} {c1 s1 : Nat} {idx d1 : Nat} {M : aM} {Q1 : aQ} {q : Nat} {ci : Nat} {fs : List Value} {x0 x1 : Value} (hd : decode (eM E).2.1 pc = .ok (.invokevirtual idx, 3)) (hp : pc + 3 = pc1) (hlk : Cond.methodLink (eM E).1.cls idx M.1 ∈ a_g) (hmt : a_mv M ci 2) (hc : h[q]? = some (.inr (ci, fs))) (hM : aRet d1 0 0 M [.ref q, x0, x1] h Q1) (hdp : d1 + 1 ≤ E.1) (hok : a_ok st = true) (hk2 : c1 ≤ E.2.1) (hn2 : s1 ≤ E.2.2.1)
    (k : ∀ (r : Option Value) (h' : List aC), Q1 r h' → aGo E pc1 ls (r.toList ++ st) h' c1 s1) : aGo E pc ls (x1 :: x0 :: .ref q :: st) h c1 s1 := by
  exact g_callV (As := [x0, x1]) hd hp hlk hmt rfl hc hM hdp (a_ok1 hok) hk2 hn2 (a_ok2 hok) k
theorem g_V3 {E : aE} {pc pc1 : Nat} {ls st : List Value} {h : List aC} {c1 s1 : Nat} {idx d1 : Nat} {M : aM} {Q1 : aQ} {q : Nat} {ci : Nat} {fs : List Value} {x0 x1 x2 : Value} (hd : decode (eM E).2.1 pc = .ok (.invokevirtual idx, 3)) (hp : pc + 3 = pc1) (hlk : Cond.methodLink (eM E).1.cls idx M.1 ∈ a_g) (hmt : a_mv M ci 3) (hc : h[q]? = some (.inr (ci, fs))) (hM : aRet d1 0 0 M [.ref q, x0, x1, x2] h Q1) (hdp : d1 + 1 ≤ E.1) (hok : a_ok st = true) (hk2 : c1 ≤ E.2.1) (hn2 : s1 ≤ E.2.2.1)
    (k : ∀ (r : Option Value) (h' : List aC), Q1 r h' → aGo E pc1 ls (r.toList ++ st) h' c1 s1) : aGo E pc ls (x2 :: x1 :: x0 :: .ref q :: st) h c1 s1 := by
  exact g_callV (As := [x0, x1, x2]) hd hp hlk hmt rfl hc hM hdp (a_ok1 hok) hk2 hn2 (a_ok2 hok) k
theorem g_S0 {E : aE} {pc pc1 : Nat} {ls st : List Value} {h : List aC} {c1 s1 : Nat} {idx d1 : Nat} {M : aM} {Q1 : aQ} (hd : decode (eM E).2.1 pc = .ok (.invokestatic idx, 3)) (hp : pc + 3 = pc1) (hlk : Cond.methodLink (eM E).1.cls idx M.1 ∈ a_g) (hmt : a_ms M 0) (hM : aRet d1 0 0 M [] h Q1) (hdp : d1 + 1 ≤ E.1) (hok : a_ok st = true) (hk2 : c1 ≤ E.2.1) (hn2 : s1 ≤ E.2.2.1)
    (k : ∀ (r : Option Value) (h' : List aC), Q1 r h' → aGo E pc1 ls (r.toList ++ st) h' c1 s1) : aGo E pc ls (st) h c1 s1 := by
  exact g_callS (As := []) hd hp hlk hmt rfl hM hdp (a_ok1 hok) hk2 hn2 (a_ok2 hok) k
theorem g_S1 {E : aE} {pc pc1 : Nat} {ls st : List Value} {h : List aC} {c1 s1 : Nat} {idx d1 : Nat} {M : aM} {Q1 : aQ} {x0 : Value} (hd : decode (eM E).2.1 pc = .ok (.invokestatic idx, 3)) (hp : pc + 3 = pc1) (hlk : Cond.methodLink (eM E).1.cls idx M.1 ∈ a_g) (hmt : a_ms M 1) (hM : aRet d1 0 0 M [x0] h Q1) (hdp : d1 + 1 ≤ E.1) (hok : a_ok st = true) (hk2 : c1 ≤ E.2.1) (hn2 : s1 ≤ E.2.2.1)
    (k : ∀ (r : Option Value) (h' : List aC), Q1 r h' → aGo E pc1 ls (r.toList ++ st) h' c1 s1) : aGo E pc ls (x0 :: st) h c1 s1 := by
  exact g_callS (As := [x0]) hd hp hlk hmt rfl hM hdp (a_ok1 hok) hk2 hn2 (a_ok2 hok) k
theorem g_S2 {E : aE} {pc pc1 : Nat} {ls st : List Value} {h : List aC} {c1 s1 : Nat} {idx d1 : Nat} {M : aM} {Q1 : aQ} {x0 x1 : Value} (hd : decode (eM E).2.1 pc = .ok (.invokestatic idx, 3)) (hp : pc + 3 = pc1) (hlk : Cond.methodLink (eM E).1.cls idx M.1 ∈ a_g) (hmt : a_ms M 2) (hM : aRet d1 0 0 M [x0, x1] h Q1) (hdp : d1 + 1 ≤ E.1) (hok : a_ok st = true) (hk2 : c1 ≤ E.2.1) (hn2 : s1 ≤ E.2.2.1)
    (k : ∀ (r : Option Value) (h' : List aC), Q1 r h' → aGo E pc1 ls (r.toList ++ st) h' c1 s1) : aGo E pc ls (x1 :: x0 :: st) h c1 s1 := by
  exact g_callS (As := [x0, x1]) hd hp hlk hmt rfl hM hdp (a_ok1 hok) hk2 hn2 (a_ok2 hok) k
theorem g_S3 {E : aE} {pc pc1 : Nat} {ls st : List Value} {h : List aC} {c1 s1 : Nat} {idx d1 : Nat} {M : aM} {Q1 : aQ} {x0 x1 x2 : Value} (hd : decode (eM E).2.1 pc = .ok (.invokestatic idx, 3)) (hp : pc + 3 = pc1) (hlk : Cond.methodLink (eM E).1.cls idx M.1 ∈ a_g) (hmt : a_ms M 3) (hM : aRet d1 0 0 M [x0, x1, x2] h Q1) (hdp : d1 + 1 ≤ E.1) (hok : a_ok st = true) (hk2 : c1 ≤ E.2.1) (hn2 : s1 ≤ E.2.2.1)
    (k : ∀ (r : Option Value) (h' : List aC), Q1 r h' → aGo E pc1 ls (r.toList ++ st) h' c1 s1) : aGo E pc ls (x2 :: x1 :: x0 :: st) h c1 s1 := by
  exact g_callS (As := [x0, x1, x2]) hd hp hlk hmt rfl hM hdp (a_ok1 hok) hk2 hn2 (a_ok2 hok) k
theorem g_SN0 {E : aE} {pc pc1 : Nat} {ls st : List Value} {h : List aC} {c1 s1 : Nat} {idx d1 : Nat} {M : aM} {Q1 : aQ} {own host : String} (hd : decode (eM E).2.1 pc = .ok (.invokestatic idx, 3)) (hp : pc + 3 = pc1) (hlk : (eM E).1.cls = own ∧ (own, idx, M.1, host) ∈ a_nl) (hmt : a_ms M 0) (hM : aRet d1 0 0 M [] h Q1) (hdp : d1 + 1 ≤ E.1) (hok : a_ok st = true) (hk2 : c1 ≤ E.2.1) (hn2 : s1 ≤ E.2.2.1)
    (k : ∀ (r : Option Value) (h' : List aC), Q1 r h' → aGo E pc1 ls (r.toList ++ st) h' c1 s1) : aGo E pc ls (st) h c1 s1 := by
  exact g_callSN (As := []) hd hp hlk hmt rfl hM hdp (a_ok1 hok) hk2 hn2 (a_ok2 hok) k
theorem g_SN1 {E : aE} {pc pc1 : Nat} {ls st : List Value} {h : List aC} {c1 s1 : Nat} {idx d1 : Nat} {M : aM} {Q1 : aQ} {own host : String} {x0 : Value} (hd : decode (eM E).2.1 pc = .ok (.invokestatic idx, 3)) (hp : pc + 3 = pc1) (hlk : (eM E).1.cls = own ∧ (own, idx, M.1, host) ∈ a_nl) (hmt : a_ms M 1) (hM : aRet d1 0 0 M [x0] h Q1) (hdp : d1 + 1 ≤ E.1) (hok : a_ok st = true) (hk2 : c1 ≤ E.2.1) (hn2 : s1 ≤ E.2.2.1)
    (k : ∀ (r : Option Value) (h' : List aC), Q1 r h' → aGo E pc1 ls (r.toList ++ st) h' c1 s1) : aGo E pc ls (x0 :: st) h c1 s1 := by
  exact g_callSN (As := [x0]) hd hp hlk hmt rfl hM hdp (a_ok1 hok) hk2 hn2 (a_ok2 hok) k
theorem g_SN2 {E : aE} {pc pc1 : Nat} {ls st : List Value} {h : List aC} {c1 s1 : Nat} {idx d1 : Nat} {M : aM} {Q1 : aQ} {own host : String} {x0 x1 : Value} (hd : decode (eM E).2.1 pc = .ok (.invokestatic idx, 3)) (hp : pc + 3 = pc1) (hlk : (eM E).1.cls = own ∧ (own, idx, M.1, host) ∈ a_nl) (hmt : a_ms M 2) (hM : aRet d1 0 0 M [x0, x1] h Q1) (hdp : d1 + 1 ≤ E.1) (hok : a_ok st = true) (hk2 : c1 ≤ E.2.1) (hn2 : s1 ≤ E.2.2.1)
    (k : ∀ (r : Option Value) (h' : List aC), Q1 r h' → aGo E pc1 ls (r.toList ++ st) h' c1 s1) : aGo E pc ls (x1 :: x0 :: st) h c1 s1 := by
  exact g_callSN (As := [x0, x1]) hd hp hlk hmt rfl hM hdp (a_ok1 hok) hk2 hn2 (a_ok2 hok) k
theorem g_SN3 {E : aE} {pc pc1 : Nat} {ls st : List Value} {h : List aC} {c1 s1 : Nat} {idx d1 : Nat} {M : aM} {Q1 : aQ} {own host : String} {x0 x1 x2 : Value} (hd : decode (eM E).2.1 pc = .ok (.invokestatic idx, 3)) (hp : pc + 3 = pc1) (hlk : (eM E).1.cls = own ∧ (own, idx, M.1, host) ∈ a_nl) (hmt : a_ms M 3) (hM : aRet d1 0 0 M [x0, x1, x2] h Q1) (hdp : d1 + 1 ≤ E.1) (hok : a_ok st = true) (hk2 : c1 ≤ E.2.1) (hn2 : s1 ≤ E.2.2.1)
    (k : ∀ (r : Option Value) (h' : List aC), Q1 r h' → aGo E pc1 ls (r.toList ++ st) h' c1 s1) : aGo E pc ls (x2 :: x1 :: x0 :: st) h c1 s1 := by
  exact g_callSN (As := [x0, x1, x2]) hd hp hlk hmt rfl hM hdp (a_ok1 hok) hk2 hn2 (a_ok2 hok) k
theorem g_I0 {E : aE} {pc pc1 : Nat} {ls st : List Value} {h : List aC} {c1 s1 k1 n1 c2 s2 : Nat} {idx d1 : Nat} {M : aM} {Q1 : aQ} {q : Nat} (hd : decode (eM E).2.1 pc = .ok (.invokespecial idx, 3)) (hp : pc + 3 = pc1) (hlk : Cond.methodLink (eM E).1.cls idx M.1 ∈ a_g) (hmt : a_mi M 0) (hM : aRet d1 k1 n1 M [.ref q] h Q1) (hdp : d1 + 1 ≤ E.1) (hok : a_ok st = true) (hk1 : c1 + k1 = c2) (hn1 : s1 + n1 = s2) (hk2 : c2 ≤ E.2.1) (hn2 : s2 ≤ E.2.2.1)
    (k : ∀ (r : Option Value) (h' : List aC), Q1 r h' → aGo E pc1 ls (r.toList ++ st) h' c2 s2) : aGo E pc ls (.ref q :: st) h c1 s1 := by
  subst hk1
  subst hn1
  exact g_callI (As := []) hd hp hlk hmt rfl hM hdp (a_ok1 hok) hk2 hn2 (a_ok2 hok) k
theorem g_I1 {E : aE} {pc pc1 : Nat} {ls st : List Value} {h : List aC} {c1 s1 k1 n1 c2 s2 : Nat} {idx d1 : Nat} {M : aM} {Q1 : aQ} {q : Nat} {x0 : Value} (hd : decode (eM E).2.1 pc = .ok (.invokespecial idx, 3)) (hp : pc + 3 = pc1) (hlk : Cond.methodLink (eM E).1.cls idx M.1 ∈ a_g) (hmt : a_mi M 1) (hM : aRet d1 k1 n1 M [.ref q, x0] h Q1) (hdp : d1 + 1 ≤ E.1) (hok : a_ok st = true) (hk1 : c1 + k1 = c2) (hn1 : s1 + n1 = s2) (hk2 : c2 ≤ E.2.1) (hn2 : s2 ≤ E.2.2.1)
    (k : ∀ (r : Option Value) (h' : List aC), Q1 r h' → aGo E pc1 ls (r.toList ++ st) h' c2 s2) : aGo E pc ls (x0 :: .ref q :: st) h c1 s1 := by
  subst hk1
  subst hn1
  exact g_callI (As := [x0]) hd hp hlk hmt rfl hM hdp (a_ok1 hok) hk2 hn2 (a_ok2 hok) k
theorem g_I2 {E : aE} {pc pc1 : Nat} {ls st : List Value} {h : List aC} {c1 s1 k1 n1 c2 s2 : Nat} {idx d1 : Nat} {M : aM} {Q1 : aQ} {q : Nat} {x0 x1 : Value} (hd : decode (eM E).2.1 pc = .ok (.invokespecial idx, 3)) (hp : pc + 3 = pc1) (hlk : Cond.methodLink (eM E).1.cls idx M.1 ∈ a_g) (hmt : a_mi M 2) (hM : aRet d1 k1 n1 M [.ref q, x0, x1] h Q1) (hdp : d1 + 1 ≤ E.1) (hok : a_ok st = true) (hk1 : c1 + k1 = c2) (hn1 : s1 + n1 = s2) (hk2 : c2 ≤ E.2.1) (hn2 : s2 ≤ E.2.2.1)
    (k : ∀ (r : Option Value) (h' : List aC), Q1 r h' → aGo E pc1 ls (r.toList ++ st) h' c2 s2) : aGo E pc ls (x1 :: x0 :: .ref q :: st) h c1 s1 := by
  subst hk1
  subst hn1
  exact g_callI (As := [x0, x1]) hd hp hlk hmt rfl hM hdp (a_ok1 hok) hk2 hn2 (a_ok2 hok) k
theorem g_I3 {E : aE} {pc pc1 : Nat} {ls st : List Value} {h : List aC} {c1 s1 k1 n1 c2 s2 : Nat} {idx d1 : Nat} {M : aM} {Q1 : aQ} {q : Nat} {x0 x1 x2 : Value} (hd : decode (eM E).2.1 pc = .ok (.invokespecial idx, 3)) (hp : pc + 3 = pc1) (hlk : Cond.methodLink (eM E).1.cls idx M.1 ∈ a_g) (hmt : a_mi M 3) (hM : aRet d1 k1 n1 M [.ref q, x0, x1, x2] h Q1) (hdp : d1 + 1 ≤ E.1) (hok : a_ok st = true) (hk1 : c1 + k1 = c2) (hn1 : s1 + n1 = s2) (hk2 : c2 ≤ E.2.1) (hn2 : s2 ≤ E.2.2.1)
    (k : ∀ (r : Option Value) (h' : List aC), Q1 r h' → aGo E pc1 ls (r.toList ++ st) h' c2 s2) : aGo E pc ls (x2 :: x1 :: x0 :: .ref q :: st) h c1 s1 := by
  subst hk1
  subst hn1
  exact g_callI (As := [x0, x1, x2]) hd hp hlk hmt rfl hM hdp (a_ok1 hok) hk2 hn2 (a_ok2 hok) k
theorem g_IN0 {E : aE} {pc pc1 : Nat} {ls st : List Value} {h : List aC} {c1 s1 k1 n1 c2 s2 : Nat} {idx d1 : Nat} {M : aM} {Q1 : aQ} {q : Nat} {own host : String} (hd : decode (eM E).2.1 pc = .ok (.invokespecial idx, 3)) (hp : pc + 3 = pc1) (hlk : (eM E).1.cls = own ∧ (own, idx, M.1, host) ∈ a_nl) (hmt : a_mi M 0) (hM : aRet d1 k1 n1 M [.ref q] h Q1) (hdp : d1 + 1 ≤ E.1) (hok : a_ok st = true) (hk1 : c1 + k1 = c2) (hn1 : s1 + n1 = s2) (hk2 : c2 ≤ E.2.1) (hn2 : s2 ≤ E.2.2.1)
    (k : ∀ (r : Option Value) (h' : List aC), Q1 r h' → aGo E pc1 ls (r.toList ++ st) h' c2 s2) : aGo E pc ls (.ref q :: st) h c1 s1 := by
  subst hk1
  subst hn1
  exact g_callIN (As := []) hd hp hlk hmt rfl hM hdp (a_ok1 hok) hk2 hn2 (a_ok2 hok) k
theorem g_IN1 {E : aE} {pc pc1 : Nat} {ls st : List Value} {h : List aC} {c1 s1 k1 n1 c2 s2 : Nat} {idx d1 : Nat} {M : aM} {Q1 : aQ} {q : Nat} {own host : String} {x0 : Value} (hd : decode (eM E).2.1 pc = .ok (.invokespecial idx, 3)) (hp : pc + 3 = pc1) (hlk : (eM E).1.cls = own ∧ (own, idx, M.1, host) ∈ a_nl) (hmt : a_mi M 1) (hM : aRet d1 k1 n1 M [.ref q, x0] h Q1) (hdp : d1 + 1 ≤ E.1) (hok : a_ok st = true) (hk1 : c1 + k1 = c2) (hn1 : s1 + n1 = s2) (hk2 : c2 ≤ E.2.1) (hn2 : s2 ≤ E.2.2.1)
    (k : ∀ (r : Option Value) (h' : List aC), Q1 r h' → aGo E pc1 ls (r.toList ++ st) h' c2 s2) : aGo E pc ls (x0 :: .ref q :: st) h c1 s1 := by
  subst hk1
  subst hn1
  exact g_callIN (As := [x0]) hd hp hlk hmt rfl hM hdp (a_ok1 hok) hk2 hn2 (a_ok2 hok) k
theorem g_IN2 {E : aE} {pc pc1 : Nat} {ls st : List Value} {h : List aC} {c1 s1 k1 n1 c2 s2 : Nat} {idx d1 : Nat} {M : aM} {Q1 : aQ} {q : Nat} {own host : String} {x0 x1 : Value} (hd : decode (eM E).2.1 pc = .ok (.invokespecial idx, 3)) (hp : pc + 3 = pc1) (hlk : (eM E).1.cls = own ∧ (own, idx, M.1, host) ∈ a_nl) (hmt : a_mi M 2) (hM : aRet d1 k1 n1 M [.ref q, x0, x1] h Q1) (hdp : d1 + 1 ≤ E.1) (hok : a_ok st = true) (hk1 : c1 + k1 = c2) (hn1 : s1 + n1 = s2) (hk2 : c2 ≤ E.2.1) (hn2 : s2 ≤ E.2.2.1)
    (k : ∀ (r : Option Value) (h' : List aC), Q1 r h' → aGo E pc1 ls (r.toList ++ st) h' c2 s2) : aGo E pc ls (x1 :: x0 :: .ref q :: st) h c1 s1 := by
  subst hk1
  subst hn1
  exact g_callIN (As := [x0, x1]) hd hp hlk hmt rfl hM hdp (a_ok1 hok) hk2 hn2 (a_ok2 hok) k
theorem g_IN3 {E : aE} {pc pc1 : Nat} {ls st : List Value} {h : List aC} {c1 s1 k1 n1 c2 s2 : Nat} {idx d1 : Nat} {M : aM} {Q1 : aQ} {q : Nat} {own host : String} {x0 x1 x2 : Value} (hd : decode (eM E).2.1 pc = .ok (.invokespecial idx, 3)) (hp : pc + 3 = pc1) (hlk : (eM E).1.cls = own ∧ (own, idx, M.1, host) ∈ a_nl) (hmt : a_mi M 3) (hM : aRet d1 k1 n1 M [.ref q, x0, x1, x2] h Q1) (hdp : d1 + 1 ≤ E.1) (hok : a_ok st = true) (hk1 : c1 + k1 = c2) (hn1 : s1 + n1 = s2) (hk2 : c2 ≤ E.2.1) (hn2 : s2 ≤ E.2.2.1)
    (k : ∀ (r : Option Value) (h' : List aC), Q1 r h' → aGo E pc1 ls (r.toList ++ st) h' c2 s2) : aGo E pc ls (x2 :: x1 :: x0 :: .ref q :: st) h c1 s1 := by
  subst hk1
  subst hn1
  exact g_callIN (As := [x0, x1, x2]) hd hp hlk hmt rfl hM hdp (a_ok1 hok) hk2 hn2 (a_ok2 hok) k
