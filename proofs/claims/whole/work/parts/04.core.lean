/-! ===== THE PURE MACHINE: a world of cells by number, and judgements that speak of it alone ===== -/
/-- a cell: an array of ints (or of booleans), or an object of a class by number with its fields -/
abbrev aC : Type := (Bool × Nat × (Nat → Int32)) ⊕ (Nat × List Value)
/-- a method: its name, code, locals, answer -/
abbrev aM : Type := MethodName × ByteArray × Nat × Option FieldType
abbrev aQ : Type := Option Value → List aC → Prop
/-- where a walk stands: depth, cells and slots that it may make, the method, the script, what is to hold at its end -/
abbrev aE : Type := Nat × Nat × Nat × aM × Option (Nat × (Nat → Int32)) × aQ
abbrev eM (E : aE) : aM := E.2.2.2.1
/-- a pure value as the machine has it: cell k lies at z + k; a float stands for the script -/
def a_v (z b : Nat) (v : Value) : Value := match v with
  | .ref k => .ref (z + k)
  | .float _ => .ref b
  | w => w
def a_e (z b : Nat) (cI cZ : ClassId) (c : aC) : va_E := match c with
  | .inl x => .inl (if x.1 then cZ else cI, x.2.1, .inl x.2.2)
  | .inr o => .inr (o.1, o.2.map (a_v z b))
def a_H (z b : Nat) (D : va_G) (cI cZ : ClassId) (h : List aC) (H : Heap) : Prop :=
  H.size = z + h.length ∧ ∀ (k : Nat) (c : aC), h[k]? = some c → va_at D vwCl (z + k, a_e z b cI cZ c) H
def a_L (z b nL : Nat) (ls : List Value) (lsA : Array Slot) : Prop :=
  lv_has lsA nL [] ∧ ls.length = nL ∧ ∀ (i : Nat) (v : Value), ls[i]? = some v → v ≠ .null → v.category = 1 ∧ lsA[i]? = some (.val (a_v z b v))
def a_g : List Cond := lw_tbl.filter goodWord
def a_nl : List (String × Nat × MethodName × String) := [
  ("ColourProof", 9, ⟨"ColourProof$Graph", "<init>", "()V"⟩, "ColourProof"),
  ("ColourProof$Search", 17, ⟨"ColourProof$Log", "<init>", "()V"⟩, "ColourProof"),
  ("ColourProof$Solution", 25, ⟨"ColourProof$Log", "<init>", "()V"⟩, "ColourProof"),
  ("ColourProof", 45, ⟨"ColourProof$Log", "<init>", "()V"⟩, "ColourProof"),
  ("ColourProof$Graph", 32, ⟨"ColourProof", "contains", "(II)Z"⟩, "ColourProof"),
  ("ColourProof$Graph", 28, ⟨"ColourProof", "firstOnes", "(I)I"⟩, "ColourProof"),
  ("ColourProof$Colouring", 50, ⟨"ColourProof", "contains", "(II)Z"⟩, "ColourProof"),
  ("ColourProof$Colouring", 54, ⟨"ColourProof", "firstOnes", "(I)I"⟩, "ColourProof"),
  ("ColourProof$Checker", 73, ⟨"ColourProof", "contains", "(II)Z"⟩, "ColourProof"),
  ("ColourProof$ToldColours", 31, ⟨"ColourProof", "contains", "(II)Z"⟩, "ColourProof")]
def a_nw (q : String × Nat × MethodName × String) : Cond := .methodLinkNest q.1 q.2.1 q.2.2.1 q.2.2.2
def a_N (U : State) : Prop := ∀ q ∈ a_nl, va_Nw (a_nw q) U
abbrev a_ty (cI cZ : ClassId) : List (ClassId × FieldType) := [(cI, .int), (cZ, .boolean)]
def a_W (z b : Nat) (D : va_G) (cI cZ : ClassId) (h : List aC) (U : State) : Prop := a_H z b D cI cZ h U.heap ∧ va_K D vwCl (a_ty cI cZ) U ∧ a_N U
def a_Rm (d k n : Nat) : Room := { frames := d, cells := k, slots := n, locals := 41 * d + 32 }
def a_ws (M : aM) : List Cond := .code M.1 M.2.1 M.2.2.1 M.2.2.2 :: a_g
def a_sc (scr : Option (Nat × (Nat → Int32))) (z b : Nat) (s : State) : Prop := ∀ L xs, scr = some (L, xs) → va_X b L xs s s.heap ∧ b < s.heap.size ∧ ¬ z ≤ b
def a_X (E : aE) (z b : Nat) (D : va_G) (cI cZ : ClassId) (p : Program) (s : State) (m : MethodId) (args : Array Value) (meth : Method) (c : Code) : Prop :=
  p.tables.exec = Jvm.exec ∧ c.code = (eM E).2.1 ∧ c.maxLocals = (eM E).2.2.1 ∧ s.vm.findClass (eM E).1.cls = some m.cls ∧ (∀ w ∈ a_g, w.before args s = true) ∧ a_N s ∧ va_K D vwCl (a_ty cI cZ) s ∧ z ≤ s.heap.size ∧ meth.name = (eM E).1.name ∧ a_sc E.2.2.2.2.1 z b s
def a_end (E : aE) (r : Option Value) (pc : Nat) : Prop := match r with
  | none => decode (eM E).2.1 pc = .ok (.return_, 1) ∧ (eM E).2.2.2 = none
  | some v => decode (eM E).2.1 pc = .ok (.ireturn, 1) ∧ ∃ (x : Int32) (ty : FieldType), v = .int x ∧ (eM E).2.2.2 = some ty ∧ narrow ty (.int x) = .int x
def a_F (E : aE) (l : Launch) (z b : Nat) (D : va_G) (cI cZ : ClassId) (p : Program) (e : Env) (s : State) (m : MethodId) (args : Array Value) (below : List Frame) (meth : Method) (c : Code) (Qf : State → Prop) : Prop :=
  ∀ (r : Option Value) (h : List aC) (H : Heap) (locs : List Loc) (pc : Nat) (lsA : Array Slot), E.2.2.2.2.2 r h → a_H z b D cI cZ h H → va_S (fun q => z ≤ q) s.heap H locs → a_end E r pc →
    W p l e (a_Rm E.1 E.2.1 E.2.2.1) s m args below meth c H locs E.2.1 E.2.2.1 Qf (F0 m pc lsA (r.map (a_v z b)).toList)
/-- the walk from here comes to its end, and there what E wants holds -/
def aGo (E : aE) (pc : Nat) (ls st : List Value) (h : List aC) (c1 s1 : Nat) : Prop :=
  ∀ (l : Launch) (z b : Nat) (D : va_G) (cI cZ : ClassId) (p : Program) (e : Env) (s : State) (m : MethodId) (args : Array Value) (below : List Frame) (meth : Method) (c : Code) (Qf : State → Prop),
    a_X E z b D cI cZ p s m args meth c → a_F E l z b D cI cZ p e s m args below meth c Qf →
    ∀ (H : Heap) (locs : List Loc) (lsA : Array Slot), a_L z b (eM E).2.2.1 ls lsA → a_H z b D cI cZ h H → va_S (fun q => z ≤ q) s.heap H locs →
      W p l e (a_Rm E.1 E.2.1 E.2.2.1) s m args below meth c H locs c1 s1 Qf (F0 m pc lsA (st.map (a_v z b)))
/-- a method's contract: from the cells h, with the arguments As, it returns, and Q holds of the answer and the cells -/
def aRet (d k n : Nat) (M : aM) (As : List Value) (h : List aC) (Q : aQ) : Prop :=
  ∀ (l : Launch) (z b : Nat) (D : va_G) (cI cZ : ClassId), Met l M.1 (a_ws M) (a_Rm d k n) (fun v U => v = (As.map (a_v z b)).toArray ∧ a_W z b D cI cZ h U)
    (fun _ st oc t => (∃ (r : Option Value) (h' : List aC), Q r h' ∧ oc = .returned (r.map (a_v z b)) ∧ a_W z b D cI cZ h' t) ∧ va_F (fun q => z ≤ q) st t) k n (fun q => z ≤ q)
-- ----- what holds of these words
theorem a_N.warm {s U : State} (h : a_N s) (hW : s.WarmedH U.vm) : a_N U := fun q hq => va_Nw.warmM hW (h q hq)
theorem a_N.same {u U : State} (h : a_N u) (e : u.vm = U.vm) : a_N U := fun q hq => va_Nw.same rfl e (h q hq)
theorem a_H.set {z b : Nat} {D : va_G} {cI cZ : ClassId} {h : List aC} {H H1 : Heap} {k : Nat} {c0 c1 : aC} (hH : a_H z b D cI cZ h H) (hk : h[k]? = some c0) (he : va_at D vwCl (z + k, a_e z b cI cZ c1) H1) (hz : H1.size = H.size) (oq : ∀ q : Nat, q ≠ z + k → H1[q]? = H[q]?) : a_H z b D cI cZ (h.set k c1) H1 := by
  have hl := (List.getElem?_eq_some_iff.mp hk).1
  refine ⟨by rw [hz, hH.1, List.length_set], fun j c hj => ?_⟩
  by_cases hjk : j = k
  · subst hjk
    rw [List.getElem?_set_self hl] at hj
    cases hj
    exact he
  · rw [List.getElem?_set_ne (Ne.symm hjk)] at hj
    exact (hH.2 j c hj).kept (oq (z + j) (by omega))
theorem a_H.push {z b : Nat} {D : va_G} {cI cZ : ClassId} {h : List aC} {H H1 : Heap} {c1 : aC} (hH : a_H z b D cI cZ h H) (he : va_at D vwCl (z + h.length, a_e z b cI cZ c1) H1) (hz : H1.size = H.size + 1) (oq : ∀ q : Nat, q < H.size → H1[q]? = H[q]?) : a_H z b D cI cZ (h ++ [c1]) H1 := by
  refine ⟨by rw [hz, hH.1, List.length_append]; simp; omega, fun j c hj => ?_⟩
  by_cases hjk : j < h.length
  · rw [List.getElem?_append_left hjk] at hj
    exact (hH.2 j c hj).kept (oq (z + j) (by rw [hH.1]; omega))
  · rw [List.getElem?_append_right (by omega)] at hj
    have hz : j - h.length < 1 := (List.getElem?_eq_some_iff.mp hj).1
    have hj0 : j = h.length := by omega
    subst hj0
    rw [Nat.sub_self] at hj
    cases hj
    exact he
theorem a_S.put {z : Nat} {H0 H H1 : Heap} {locs : List Loc} {k q : Nat} (h : va_S (fun q => z ≤ q) H0 H locs) (hz : H1.size = H.size) (oq : ∀ x : Nat, x ≠ z + k → H1[x]? = H[x]?) : va_S (fun q => z ≤ q) H0 H1 (locs ++ [⟨z + k, q⟩]) := h.put hz oq (Nat.le_add_right z k)
theorem a_L.at {z b nL : Nat} {ls : List Value} {lsA : Array Slot} (h : a_L z b nL ls lsA) {i : Nat} {v : Value} (hi : ls[i]? = some v) (hv : v ≠ .null) : lsA[i]? = some (.val (a_v z b v)) := (h.2.2 i v hi hv).2
def a_l0 (z b : Nat) (ls : List Value) : List (Nat × Value) := ls.zipIdx.filterMap (fun p => if p.1 = .null then none else some (p.2, a_v z b p.1))
theorem a_l0_in {z b : Nat} {ls : List Value} {j : Nat} {v : Value} (h : ls[j]? = some v) (hv : v ≠ .null) : (j, a_v z b v) ∈ a_l0 z b ls := by
  refine List.mem_filterMap.mpr ⟨(v, j), ?_, by simp [hv]⟩
  exact List.mem_zipIdx_iff_getElem?.mpr h
theorem a_l0_has {z b nL : Nat} {ls : List Value} {lsA : Array Slot} (h : a_L z b nL ls lsA) : lv_has lsA nL (a_l0 z b ls) := by
  refine ⟨h.1.1, h.1.2.1, fun q hq => ?_⟩
  obtain ⟨⟨v, j⟩, h1, h2⟩ := List.mem_filterMap.mp hq
  have h3 := List.mem_zipIdx_iff_getElem?.mp h1
  by_cases hv : v = .null
  · simp [hv] at h2
  · simp [hv] at h2
    subst h2
    exact h.at h3 hv
theorem a_cat {z b : Nat} {v : Value} (h : v.category = 1) : (a_v z b v).category = 1 := by
  cases v <;> first | rfl | exact h
theorem a_L.put {z b nL : Nat} {ls : List Value} {lsA lsB : Array Slot} {i : Nat} {v : Value} (h : a_L z b nL ls lsA) (hc : v.category = 1)
    (hB : lv_has lsB nL ((i, a_v z b v) :: (a_l0 z b ls).filter (fun q => !(q.1 == i) && !(q.1 + 1 == i && q.2.category == 2)))) : a_L z b nL (ls.set i v) lsB := by
  refine ⟨⟨hB.1, hB.2.1, fun q hq => by cases hq⟩, by rw [List.length_set]; exact h.2.1, fun j w hj hw => ?_⟩
  by_cases hji : j = i
  · subst hji
    have hl : j < ls.length := by
      have := (List.getElem?_eq_some_iff.mp hj).1
      rwa [List.length_set] at this
    rw [List.getElem?_set_self hl] at hj
    cases hj
    exact ⟨hc, hB.2.2 _ List.mem_cons_self⟩
  · rw [List.getElem?_set_ne (Ne.symm hji)] at hj
    have h1 := (h.2.2 j w hj hw).1
    refine ⟨h1, hB.2.2 _ (List.mem_cons_of_mem _ (List.mem_filter.mpr ⟨a_l0_in hj hw, ?_⟩))⟩
    simp [hji, a_cat h1]
theorem a_args_len (z b : Nat) (As : List Value) (hc : ∀ v ∈ As, v.category = 1) : lg_sl (As.map (a_v z b)) = As.map (fun v => Slot.val (a_v z b v)) := by
  induction As with
  | nil => rfl
  | cons v t ih =>
    have h1 : ¬ (a_v z b v).category = 2 := by rw [a_cat (hc v List.mem_cons_self)]; decide
    have h2 := ih (fun w hw => hc w (List.mem_cons_of_mem _ hw))
    simp only [lg_sl, List.map_cons, List.flatMap_cons, if_neg h1]
    have h3 : List.flatMap (fun v => if v.category = 2 then [Slot.val v, Slot.second] else [Slot.val v]) (List.map (a_v z b) t) = t.map (fun v => Slot.val (a_v z b v)) := h2
    rw [h3]
    rfl
theorem a_L.entry {z b nL : Nat} {As : List Value} (hn : As.length ≤ nL) (hc : ∀ v ∈ As, v.category = 1) :
    a_L z b nL (As ++ List.replicate (nL - As.length) .null) ((lg_sl (As.map (a_v z b)) ++ List.replicate (nL - (lg_sl (As.map (a_v z b))).length) Slot.unset).toArray) := by
  have he := a_args_len z b As hc
  have hl : (lg_sl (As.map (a_v z b))).length = As.length := by rw [he]; simp
  have h0 := lv_entry (As.map (a_v z b)) (n := nL) (by rw [hl]; exact hn)
  refine ⟨⟨h0.1, h0.2.1, fun q hq => by cases hq⟩, by simp; omega, fun i v hi hv => ?_⟩
  by_cases hlt : i < As.length
  · rw [List.getElem?_append_left hlt] at hi
    refine ⟨hc v (List.mem_of_getElem? hi), ?_⟩
    rw [he]
    obtain ⟨h8, h9⟩ := List.getElem?_eq_some_iff.mp hi
    simp [List.getElem?_append, hlt, h9]
  · rw [List.getElem?_append_right (by omega)] at hi
    obtain ⟨h1, h2⟩ := List.getElem?_eq_some_iff.mp hi
    simp at h2
    exact absurd h2.symm hv
theorem a_v_narrow {z b : Nat} {x : Int32} : a_v z b (.int x) = .int x := rfl
set_option maxHeartbeats 4000000 in
theorem aRet.of {d k n : Nat} {M : aM} {As : List Value} {h : List aC} {Q : aQ} (hy : plainName M.1.cls = true) (hA : As.length ≤ M.2.2.1) (hc : ∀ v ∈ As, v.category = 1)
    (hg : aGo (d, k, n, M, none, Q) 0 (As ++ List.replicate (M.2.2.1 - As.length) .null) [] h 0 0) : aRet d k n M As h Q := by
  intro l z b D cI cZ
  refine Met.ofW (cc := M.2.1) (maxL := M.2.2.1) (ret := M.2.2.2) hy rfl ?_
  intro p e s m args below meth c s₁ B hml hv
  obtain ⟨rfl, hH, hK, hN⟩ := hv
  have hx := B.exec
  have hb := B.bytes
  have hr := B.returns
  have hlocks := B.notSynchronized
  have hts := atoms_spec (ws := a_ws M) B.pre
  have hown : s.vm.findClass M.1.cls = some m.cls := findClass_of_methodNamed B.named
  have hin : meth.name = M.1.name := (name_of_methodNamed B.named B.method).1
  rw [lg_entry_eq]
  refine hg l z b D cI cZ p e s m _ below meth c _ ⟨hx, hb, hml, hown, fun w hw => hts w (List.mem_cons_of_mem _ hw), hN, hK, by rw [hH.1]; exact Nat.le_add_right _ _, hin, fun L xs h => by cases h⟩ ?_ s.heap [] _ (a_L.entry hA hc) hH va_S.rf
  intro r h' H locs pc lsA hq hH' hS hd
  cases r with
  | none =>
    exact W.vret hx hb (hr.trans hd.2) (fun t ht hW => ⟨⟨none, h', hq, rfl, by rw [ht]; exact hH', va_K.moved hW.alike hK, hN.warm hW⟩, hS.F ht⟩) hS.2.2 hd.1 hlocks
  | some v =>
    obtain ⟨hd1, x, ty, rfl, h2, h3⟩ := hd
    exact W.zret hx hb (hr.trans h2) h3 (fun t ht hW => ⟨⟨some (.int x), h', hq, rfl, by rw [ht]; exact hH', va_K.moved hW.alike hK, hN.warm hW⟩, hS.F ht⟩) hS.2.2 hd1 hlocks
