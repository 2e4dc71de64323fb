/-- a class of the worlds: its number, name, fields, how many, their types -/
def a_K (ci : Nat) (C : String) (T : u_T) (N : Nat) (ty : Nat → FieldType) : Prop := vwCl[ci]? = some (C, T, N) ∧ (∀ w ∈ u_ws C T N, w ∈ a_g) ∧ (∀ k, k < N → parseFieldDescriptor (T k).2.2.1 = some (ty k)) ∧ (∀ a, a < N → ∀ b, b < N → a ≠ b → (T a).2.1 ≠ (T b).2.1)
/-- entry idx of the class own's pool is field k of class ci, of type ty, final or not -/
def a_f (own : String) (idx ci k : Nat) (t : FieldType) (fin : Bool) : Prop := ∃ (C : String) (T : u_T) (N : Nat) (ty : Nat → FieldType), a_K ci C T N ty ∧ k < N ∧ Cond.fieldLink own idx (T k).1 (T k).2.1 (T k).2.2.1 ∈ a_g ∧ ty k = t ∧ (T k).2.2.2 = fin ∧ (fin = true → (T k).1 = C)
set_option maxHeartbeats 2000000 in
theorem g_get {E : aE} {pc pc1 : Nat} {ls st : List Value} {h : List aC} {c1 s1 : Nat} {q idx ci kf : Nat} {t : FieldType} {fin : Bool} {fs : List Value} {v : Value} (hd : decode (eM E).2.1 pc = .ok (.getfield idx, 3)) (hp : pc + 3 = pc1) (hf : a_f (eM E).1.cls idx ci kf t fin) (hc : h[q]? = some (.inr (ci, fs))) (hv : fs[kf]? = some v)
    (k : aGo E pc1 ls (v :: st) h c1 s1) : aGo E pc ls (.ref q :: st) h c1 s1 := by
  subst hp
  intro l z b D cI cZ p e s m args below meth c Qf X F H locs lsA hL hH hS
  obtain ⟨C, T, N, ty, ⟨hcl, hin, -, -⟩, hk, hlink, -⟩ := hf
  obtain ⟨r, h1, cell, q1, q2, q3, q4⟩ := hH.2 q _ hc
  have hr : r = (C, T, N) := Option.some.inj (h1.symm.trans hcl)
  subst hr
  obtain ⟨hSl, hfc, kC, hkC, hkind⟩ := X.2.2.2.2.2.2.1.1 ci _ hcl
  obtain ⟨cf, kk, fi, f, hi, hsl⟩ := hSl kf hk
  refine W.getf X.1 X.2.1 X.2.2.2.1 (X.2.2.2.2.1 _ hlink) hi (u_facts hfc hkC (u_lays X.2.2.2.2.1 hin hk) hi).1 q1 (by rw [q3]; exact fun h => by cases h) (v := a_v z b v) ?_ rfl rfl hd (k l z b D cI cZ p e s m args below meth c Qf X F H locs lsA hL hH hS)
  rw [hsl, q4 kf hk]
  simp [vp_V, hv]
set_option maxHeartbeats 2000000 in
theorem g_puti {E : aE} {pc pc1 : Nat} {ls st : List Value} {h : List aC} {c1 s1 : Nat} {q idx ci kf : Nat} {t : FieldType} {fs : List Value} {x : Int32} (hd : decode (eM E).2.1 pc = .ok (.putfield idx, 3)) (hp : pc + 3 = pc1) (hf : a_f (eM E).1.cls idx ci kf t false) (hc : h[q]? = some (.inr (ci, fs))) (hl : kf < fs.length) (hn : narrow t (.int x) = .int x) (hfit : fits t (.int x) = true)
    (k : aGo E pc1 ls st (h.set q (.inr (ci, fs.set kf (.int x)))) c1 s1) : aGo E pc ls (.int x :: .ref q :: st) h c1 s1 := by
  subst hp
  intro l z b D cI cZ p e s m args below meth c Qf X F H locs lsA hL hH hS
  obtain ⟨C, T, N, ty, ⟨hcl, hin, hty, hnm⟩, hk, hlink, ht, hfin, hCC⟩ := hf
  have hap := va_apart (own := C) X.2.2.2.2.1 hin ty hty hnm X.2.2.2.2.2.2.1 hcl
  obtain ⟨r, h1, cell, q1, q2, q3, q4⟩ := hH.2 q _ hc
  have hr : r = (C, T, N) := Option.some.inj (h1.symm.trans hcl)
  subst hr
  obtain ⟨hSl, hfc, kC, hkC, hkind⟩ := X.2.2.2.2.2.2.1.1 ci _ hcl
  obtain ⟨cf, kk, fi, f, hi, hsl⟩ := hSl kf hk
  have hlay := X.2.2.2.2.1 _ (hin _ (u_in_lay hk))
  unfold u_lay at hlay
  rw [if_neg (by rw [hfin]; decide)] at hlay
  have hst := (u_facts hfc hkC (u_lays X.2.2.2.2.1 hin hk) hi).1
  have h6 := u_store hfc hkC hkind hlay hi ((hty kf hk).trans (by rw [ht])) hn hfit
  refine W.putK X.1 X.2.1 (f := f) ⟨X.2.2.2.1, X.2.2.2.2.1 _ hlink, ⟨_, _, _, hi⟩, hst⟩ (by rw [q2]; exact h6) q1 q3 (by rw [hsl]; exact k2_hasslot (q4 kf hk)) rfl rfl hd fun H' e1 e2 e3 => ?_
  rw [hsl] at e1 ⊢
  refine k l z b D cI cZ p e s m args below meth c Qf X F H' _ lsA hL (hH.set hc ⟨_, hcl, ?_⟩ e2 e3) (a_S.put hS e2 e3)
  have h8 := t_OB.to (V := updV (vp_V (fs.map (a_v z b))) kf (.int x)) (V' := vp_V ((fs.map (a_v z b)).set kf (.int x))) ⟨_, e1, q2, q3, t_set q4 hap hk (.int x)⟩ (fun j _ => vp_updV_set (by rw [List.length_map]; exact hl) (.int x) j)
  have h9 : (fs.map (a_v z b)).set kf (.int x) = (fs.set kf (.int x)).map (a_v z b) := by rw [List.map_set]; rfl
  rw [h9] at h8
  exact h8
set_option maxHeartbeats 2000000 in
theorem g_putiF {E : aE} {pc pc1 : Nat} {ls st : List Value} {h : List aC} {c1 s1 : Nat} {q idx ci kf : Nat} {t : FieldType} {fs : List Value} {x : Int32} (hd : decode (eM E).2.1 pc = .ok (.putfield idx, 3)) (hp : pc + 3 = pc1) (hf : a_f (eM E).1.cls idx ci kf t true) (hc : h[q]? = some (.inr (ci, fs))) (hl : kf < fs.length) (hn : narrow t (.int x) = .int x) (hfit : fits t (.int x) = true) (hini : (eM E).1.name = "<init>") (hoc : (eM E).1.cls = (vwCl[ci]?.map (fun q => q.1)).getD "")
    (k : aGo E pc1 ls st (h.set q (.inr (ci, fs.set kf (.int x)))) c1 s1) : aGo E pc ls (.int x :: .ref q :: st) h c1 s1 := by
  subst hp
  intro l z b D cI cZ p e s m args below meth c Qf X F H locs lsA hL hH hS
  obtain ⟨C, T, N, ty, ⟨hcl, hin, hty, hnm⟩, hk, hlink, ht, hfin, hCC⟩ := hf
  have hap := va_apart (own := C) X.2.2.2.2.1 hin ty hty hnm X.2.2.2.2.2.2.1 hcl
  obtain ⟨r, h1, cell, q1, q2, q3, q4⟩ := hH.2 q _ hc
  have hr : r = (C, T, N) := Option.some.inj (h1.symm.trans hcl)
  subst hr
  obtain ⟨hSl, hfc, kC, hkC, hkind⟩ := X.2.2.2.2.2.2.1.1 ci _ hcl
  obtain ⟨cf, kk, fi, f, hi, hsl⟩ := hSl kf hk
  have hlay := X.2.2.2.2.1 _ (hin _ (u_in_lay hk))
  unfold u_lay at hlay
  rw [if_pos hfin] at hlay
  have hst := (u_facts hfc hkC (u_lays X.2.2.2.2.1 hin hk) hi).1
  have hcf : m.cls = cf := by
    obtain ⟨_, _, c', _, _, _, -, -, hf', -, -, -, hown2, -⟩ := Cond.laysFinal_spec hlay
    have e1 : c' = cf := by have := hi.symm.trans hf'; simp at this; exact this.1.symm
    have e2 : (eM E).1.cls = C := by rw [hoc, hcl]; rfl
    rw [hCC rfl] at hown2
    rw [← e1]; exact Option.some.inj ((e2 ▸ X.2.2.2.1).symm.trans hown2)
  have h6 := u_fits hfc hkC hkind (Or.inr hlay) hi ((hty kf hk).trans (by rw [ht])) hn hfit
  refine W.putFinK X.1 X.2.1 X.2.2.2.1 (X.2.2.2.2.1 _ hlink) hi hst hcf (X.2.2.2.2.2.2.2.2.1.trans hini) (by rw [q2]; exact h6) q1 q3 (by rw [hsl]; exact k2_hasslot (q4 kf hk)) rfl rfl hd fun H' e1 e2 e3 => ?_
  rw [hsl] at e1 ⊢
  refine k l z b D cI cZ p e s m args below meth c Qf X F H' _ lsA hL (hH.set hc ⟨_, hcl, ?_⟩ e2 e3) (a_S.put hS e2 e3)
  have h8 := t_OB.to (V := updV (vp_V (fs.map (a_v z b))) kf (.int x)) (V' := vp_V ((fs.map (a_v z b)).set kf (.int x))) ⟨_, e1, q2, q3, t_set q4 hap hk (.int x)⟩ (fun j _ => vp_updV_set (by rw [List.length_map]; exact hl) (.int x) j)
  have h9 : (fs.map (a_v z b)).set kf (.int x) = (fs.set kf (.int x)).map (a_v z b) := by rw [List.map_set]; rfl
  rw [h9] at h8
  exact h8
set_option maxHeartbeats 2000000 in
theorem g_putr {E : aE} {pc pc1 : Nat} {ls st : List Value} {h : List aC} {c1 s1 : Nat} {q idx ci kf : Nat} {t : FieldType} {fs : List Value} {x : Nat} (hd : decode (eM E).2.1 pc = .ok (.putfield idx, 3)) (hp : pc + 3 = pc1) (hf : a_f (eM E).1.cls idx ci kf t false) (hc : h[q]? = some (.inr (ci, fs))) (hl : kf < fs.length) (hfit : ∀ y : Nat, narrow t (.ref y) = .ref y ∧ fits t (.ref y) = true)
    (k : aGo E pc1 ls st (h.set q (.inr (ci, fs.set kf (.ref x)))) c1 s1) : aGo E pc ls (.ref x :: .ref q :: st) h c1 s1 := by
  subst hp
  intro l z b D cI cZ p e s m args below meth c Qf X F H locs lsA hL hH hS
  obtain ⟨C, T, N, ty, ⟨hcl, hin, hty, hnm⟩, hk, hlink, ht, hfin, hCC⟩ := hf
  have hap := va_apart (own := C) X.2.2.2.2.1 hin ty hty hnm X.2.2.2.2.2.2.1 hcl
  obtain ⟨r, h1, cell, q1, q2, q3, q4⟩ := hH.2 q _ hc
  have hr : r = (C, T, N) := Option.some.inj (h1.symm.trans hcl)
  subst hr
  obtain ⟨hSl, hfc, kC, hkC, hkind⟩ := X.2.2.2.2.2.2.1.1 ci _ hcl
  obtain ⟨cf, kk, fi, f, hi, hsl⟩ := hSl kf hk
  have hlay := X.2.2.2.2.1 _ (hin _ (u_in_lay hk))
  unfold u_lay at hlay
  rw [if_neg (by rw [hfin]; decide)] at hlay
  have hst := (u_facts hfc hkC (u_lays X.2.2.2.2.1 hin hk) hi).1
  have h6 := u_store hfc hkC hkind hlay hi ((hty kf hk).trans (by rw [ht])) (hfit (z + x)).1 (hfit (z + x)).2
  refine W.putK X.1 X.2.1 (f := f) ⟨X.2.2.2.1, X.2.2.2.2.1 _ hlink, ⟨_, _, _, hi⟩, hst⟩ (by rw [q2]; exact h6) q1 q3 (by rw [hsl]; exact k2_hasslot (q4 kf hk)) rfl rfl hd fun H' e1 e2 e3 => ?_
  rw [hsl] at e1 ⊢
  refine k l z b D cI cZ p e s m args below meth c Qf X F H' _ lsA hL (hH.set hc ⟨_, hcl, ?_⟩ e2 e3) (a_S.put hS e2 e3)
  have h8 := t_OB.to (V := updV (vp_V (fs.map (a_v z b))) kf (.ref (z + x))) (V' := vp_V ((fs.map (a_v z b)).set kf (.ref (z + x)))) ⟨_, e1, q2, q3, t_set q4 hap hk (.ref (z + x))⟩ (fun j _ => vp_updV_set (by rw [List.length_map]; exact hl) (.ref (z + x)) j)
  have h9 : (fs.map (a_v z b)).set kf (.ref (z + x)) = (fs.set kf (.ref x)).map (a_v z b) := by rw [List.map_set]; rfl
  rw [h9] at h8
  exact h8
set_option maxHeartbeats 2000000 in
theorem g_putrF {E : aE} {pc pc1 : Nat} {ls st : List Value} {h : List aC} {c1 s1 : Nat} {q idx ci kf : Nat} {t : FieldType} {fs : List Value} {x : Nat} (hd : decode (eM E).2.1 pc = .ok (.putfield idx, 3)) (hp : pc + 3 = pc1) (hf : a_f (eM E).1.cls idx ci kf t true) (hc : h[q]? = some (.inr (ci, fs))) (hl : kf < fs.length) (hfit : ∀ y : Nat, narrow t (.ref y) = .ref y ∧ fits t (.ref y) = true) (hini : (eM E).1.name = "<init>") (hoc : (eM E).1.cls = (vwCl[ci]?.map (fun q => q.1)).getD "")
    (k : aGo E pc1 ls st (h.set q (.inr (ci, fs.set kf (.ref x)))) c1 s1) : aGo E pc ls (.ref x :: .ref q :: st) h c1 s1 := by
  subst hp
  intro l z b D cI cZ p e s m args below meth c Qf X F H locs lsA hL hH hS
  obtain ⟨C, T, N, ty, ⟨hcl, hin, hty, hnm⟩, hk, hlink, ht, hfin, hCC⟩ := hf
  have hap := va_apart (own := C) X.2.2.2.2.1 hin ty hty hnm X.2.2.2.2.2.2.1 hcl
  obtain ⟨r, h1, cell, q1, q2, q3, q4⟩ := hH.2 q _ hc
  have hr : r = (C, T, N) := Option.some.inj (h1.symm.trans hcl)
  subst hr
  obtain ⟨hSl, hfc, kC, hkC, hkind⟩ := X.2.2.2.2.2.2.1.1 ci _ hcl
  obtain ⟨cf, kk, fi, f, hi, hsl⟩ := hSl kf hk
  have hlay := X.2.2.2.2.1 _ (hin _ (u_in_lay hk))
  unfold u_lay at hlay
  rw [if_pos hfin] at hlay
  have hst := (u_facts hfc hkC (u_lays X.2.2.2.2.1 hin hk) hi).1
  have hcf : m.cls = cf := by
    obtain ⟨_, _, c', _, _, _, -, -, hf', -, -, -, hown2, -⟩ := Cond.laysFinal_spec hlay
    have e1 : c' = cf := by have := hi.symm.trans hf'; simp at this; exact this.1.symm
    have e2 : (eM E).1.cls = C := by rw [hoc, hcl]; rfl
    rw [hCC rfl] at hown2
    rw [← e1]; exact Option.some.inj ((e2 ▸ X.2.2.2.1).symm.trans hown2)
  have h6 := u_fits hfc hkC hkind (Or.inr hlay) hi ((hty kf hk).trans (by rw [ht])) (hfit (z + x)).1 (hfit (z + x)).2
  refine W.putFinK X.1 X.2.1 X.2.2.2.1 (X.2.2.2.2.1 _ hlink) hi hst hcf (X.2.2.2.2.2.2.2.2.1.trans hini) (by rw [q2]; exact h6) q1 q3 (by rw [hsl]; exact k2_hasslot (q4 kf hk)) rfl rfl hd fun H' e1 e2 e3 => ?_
  rw [hsl] at e1 ⊢
  refine k l z b D cI cZ p e s m args below meth c Qf X F H' _ lsA hL (hH.set hc ⟨_, hcl, ?_⟩ e2 e3) (a_S.put hS e2 e3)
  have h8 := t_OB.to (V := updV (vp_V (fs.map (a_v z b))) kf (.ref (z + x))) (V' := vp_V ((fs.map (a_v z b)).set kf (.ref (z + x)))) ⟨_, e1, q2, q3, t_set q4 hap hk (.ref (z + x))⟩ (fun j _ => vp_updV_set (by rw [List.length_map]; exact hl) (.ref (z + x)) j)
  have h9 : (fs.map (a_v z b)).set kf (.ref (z + x)) = (fs.set kf (.ref x)).map (a_v z b) := by rw [List.map_set]; rfl
  rw [h9] at h8
  exact h8
/-- entry idx of own's pool is the class ci, that can be made; its fields at first -/
def a_new (own : String) (idx ci N : Nat) (fs : List Value) : Prop := ∃ (C : String) (T : u_T) (ty : Nat → FieldType), a_K ci C T N ty ∧ Cond.classLink own idx C ∈ a_g ∧ Cond.instantiable C N ∈ a_g ∧ Cond.initialized C ∈ a_g ∧ (∀ z b : Nat, ∀ j, j < N → defaultValue (ty j) = vp_V (fs.map (a_v z b)) j)
set_option maxHeartbeats 2000000 in
theorem g_new {E : aE} {pc pc1 : Nat} {ls st : List Value} {h : List aC} {c1 s1 : Nat} {idx ci N q : Nat} {fs : List Value} {h' : List aC} (hd : decode (eM E).2.1 pc = .ok (.new idx, 3)) (hp : pc + 3 = pc1) (hf : a_new (eM E).1.cls idx ci N fs) (hq : h.length = q) (hh : h ++ [.inr (ci, fs)] = h') (hk : c1 + 1 ≤ E.2.1) (hn : s1 + N ≤ E.2.2.1)
    (k : aGo E pc1 ls (.ref q :: st) h' (c1 + 1) (s1 + N)) : aGo E pc ls st h c1 s1 := by
  subst hp
  subst hq
  subst hh
  intro l z b D cI cZ p e s m args below meth c Qf X F H locs lsA hL hH hS
  obtain ⟨C, T, ty, ⟨hcl, hin, hty, hnm⟩, h1, h2, h3, hfs⟩ := hf
  have hKn := X.2.2.2.2.2.2.1.1 ci _ hcl
  refine W.newcK X.1 X.2.1 X.2.2.2.1 (X.2.2.2.2.1 _ h1) (X.2.2.2.2.1 _ h2) (X.2.2.2.2.1 _ h3) rfl hd hk hn hKn.2.1 hH.1 fun H1 kC hkC e1 z1 o1 => ?_
  refine k l z b D cI cZ p e s m args below meth c Qf X F H1 locs lsA hL (hH.push ⟨_, hcl, ?_⟩ (by rw [z1, hH.1]) (fun q hq => o1 q (by rw [← hH.1]; exact hq))) ⟨Nat.le_trans hS.1 (by rw [z1, hH.1]; omega), fun x g1 g2 => (o1 x (by have := hS.1; rw [← hH.1]; omega)).trans (hS.2.1 x g1 g2), hS.2.2⟩
  exact (u_born ty X.2.2.2.2.1 hin hKn hkC e1 hty).to (fun j hj => hfs z b j hj)
set_option maxHeartbeats 2000000 in
theorem g_newi {E : aE} {pc pc1 : Nat} {ls st : List Value} {h : List aC} {c1 s1 : Nat} {q N : Nat} {n : Int32} {h' : List aC} (hd : decode (eM E).2.1 pc = .ok (.newarray .int, 2)) (hp : pc + 2 = pc1) (hw : Cond.arrayClass .int ∈ a_g) (h0 : ¬ n < 0) (hN : n.toNatClampNeg = N) (hb9 : N ≤ 100000) (hq : h.length = q) (hh : h ++ [.inl (false, N, fun _ => 0)] = h') (hk : c1 + 1 ≤ E.2.1) (hn : s1 + N ≤ E.2.2.1)
    (k : aGo E pc1 ls (.ref q :: st) h' (c1 + 1) (s1 + N)) : aGo E pc ls (.int n :: st) h c1 s1 := by
  subst hp
  subst hq
  subst hh
  intro l z b D cI cZ p e s m args below meth c Qf X F H locs lsA hL hH hS
  refine va_newaK (atype := .int) X.1 X.2.1 (X.2.2.2.2.1 _ hw) rfl hd rfl h0 hN (by simp only [newarray.typeOf, componentBytes]; omega) hk hn hH.1 fun H1 cA e1 z1 o1 hAr hNm => ?_
  have hcA : cA = cI := Option.some.inj (hNm.symm.trans (X.2.2.2.2.2.2.1.2 0 _ rfl).2)
  subst hcA
  refine k l z b D _ _ p e s m args below meth c Qf X F H1 locs lsA hL (hH.push ?_ (by rw [z1, hH.1]) (fun q hq => o1 q (by rw [← hH.1]; exact hq))) ⟨Nat.le_trans hS.1 (by rw [z1, hH.1]; omega), fun x g1 g2 => (o1 x (by have := hS.1; rw [← hH.1]; omega)).trans (hS.2.1 x g1 g2), hS.2.2⟩
  exact e1
set_option maxHeartbeats 2000000 in
theorem g_newz {E : aE} {pc pc1 : Nat} {ls st : List Value} {h : List aC} {c1 s1 : Nat} {q N : Nat} {n : Int32} {h' : List aC} (hd : decode (eM E).2.1 pc = .ok (.newarray .boolean, 2)) (hp : pc + 2 = pc1) (hw : Cond.arrayClass .boolean ∈ a_g) (h0 : ¬ n < 0) (hN : n.toNatClampNeg = N) (hb9 : N ≤ 100000) (hq : h.length = q) (hh : h ++ [.inl (true, N, fun _ => 0)] = h') (hk : c1 + 1 ≤ E.2.1) (hn : s1 + N ≤ E.2.2.1)
    (k : aGo E pc1 ls (.ref q :: st) h' (c1 + 1) (s1 + N)) : aGo E pc ls (.int n :: st) h c1 s1 := by
  subst hp
  subst hq
  subst hh
  intro l z b D cI cZ p e s m args below meth c Qf X F H locs lsA hL hH hS
  refine va_newaK (atype := .boolean) X.1 X.2.1 (X.2.2.2.2.1 _ hw) rfl hd rfl h0 hN (by simp only [newarray.typeOf, componentBytes]; omega) hk hn hH.1 fun H1 cA e1 z1 o1 hAr hNm => ?_
  have hcA : cA = cZ := Option.some.inj (hNm.symm.trans (X.2.2.2.2.2.2.1.2 1 _ rfl).2)
  subst hcA
  refine k l z b D _ _ p e s m args below meth c Qf X F H1 locs lsA hL (hH.push ?_ (by rw [z1, hH.1]) (fun q hq => o1 q (by rw [← hH.1]; exact hq))) ⟨Nat.le_trans hS.1 (by rw [z1, hH.1]; omega), fun x g1 g2 => (o1 x (by have := hS.1; rw [← hH.1]; omega)).trans (hS.2.1 x g1 g2), hS.2.2⟩
  exact e1
set_option maxHeartbeats 2000000 in
theorem g_iret {E : aE} {pc : Nat} {ls : List Value} {h : List aC} {c1 s1 : Nat} {x : Int32} {t : FieldType} (hd : decode (eM E).2.1 pc = .ok (.ireturn, 1)) (ht : (eM E).2.2.2 = some t) (hn : narrow t (.int x) = .int x) (hk : c1 ≤ E.2.1) (hs : s1 ≤ E.2.2.1) (hQ : E.2.2.2.2.2 (some (.int x)) h) : aGo E pc ls [.int x] h c1 s1 := by
  intro l z b D cI cZ p e s m args below meth c Qf X F H locs lsA hL hH hS
  exact W.widen hk hs (F (some (.int x)) h H locs pc lsA hQ hH hS ⟨hd, x, t, rfl, ht, hn⟩)
set_option maxHeartbeats 2000000 in
theorem g_vret {E : aE} {pc : Nat} {ls : List Value} {h : List aC} {c1 s1 : Nat} (hd : decode (eM E).2.1 pc = .ok (.return_, 1)) (ht : (eM E).2.2.2 = none) (hk : c1 ≤ E.2.1) (hs : s1 ≤ E.2.2.1) (hQ : E.2.2.2.2.2 none h) : aGo E pc ls [] h c1 s1 := by
  intro l z b D cI cZ p e s m args below meth c Qf X F H locs lsA hL hH hS
  exact W.widen hk hs (F none h H locs pc lsA hQ hH hS ⟨hd, ht⟩)
/-- what the tables say of a method: its code, its class, how many arguments -/
def a_mt (M : aM) (n : Nat) : Prop := Cond.code M.1 M.2.1 M.2.2.1 M.2.2.2 ∈ a_g ∧ Cond.initialized M.1.cls ∈ a_g ∧ (M.1.cls ≠ "java/lang/invoke/MethodHandle" ∧ M.1.cls ≠ "java/lang/invoke/VarHandle") ∧ (parseMethodDescriptor M.1.desc).map (fun d => d.parameters.length) = some n ∧ M.2.2.1 ≤ 20
def a_mv (M : aM) (ci n : Nat) : Prop := a_mt M n ∧ Cond.instanceMethod M.1 ∈ a_g ∧ Cond.selects M.1.cls M.1 M.1 ∈ a_g ∧ ∃ T N, vwCl[ci]? = some (M.1.cls, T, N)
def a_ms (M : aM) (n : Nat) : Prop := a_mt M n ∧ Cond.static M.1 ∈ a_g
def a_mi (M : aM) (n : Nat) : Prop := a_mt M n ∧ M.1.name = "<init>" ∧ M.2.2.2 = none ∧ Cond.instanceMethod M.1 ∈ a_g
theorem a_good (M : aM) (h : Cond.code M.1 M.2.1 M.2.2.1 M.2.2.2 ∈ a_g) : GoodIn a_g (a_ws M) := fun w hw => by
  have h1 : w ∈ a_g := by
    rcases List.mem_cons.mp hw with rfl | h2
    · exact h
    · exact h2
  exact ⟨h1, good_of_word (List.mem_filter.mp h1).2⟩
theorem a_blind {As : List Value} {z b : Nat} {D : va_G} {cI cZ : ClassId} {h : List aC} : FrameBlind (fun v U => v = (As.map (a_v z b)).toArray ∧ a_W z b D cI cZ h U) := fun a U g mk q => ⟨q.1, q.2.1, va_K.moved (u := U) (U := U.calling g mk a) (Vm.Alike.refl U.vm) q.2.2.1, q.2.2.2.same rfl⟩
theorem a_mapl (z b : Nat) (r : Option Value) (st : List Value) : (r.map (a_v z b)).toList ++ st.map (a_v z b) = (r.toList ++ st).map (a_v z b) := by cases r <;> rfl
/-- behind a call -/
theorem a_after {E : aE} {pc : Nat} {ls st st0 : List Value} {c1 s1 k1 n1 : Nat} {Q' : aQ} {l : Launch} {z b : Nat} {D : va_G} {cI cZ : ClassId} {p : Program} {e : Env} {s : State} {m : MethodId} {args : Array Value} {below : List Frame} {meth : Method} {c : Code} {Qf : State → Prop} {H : Heap} {locs : List Loc} {lsA : Array Slot}
    (X : a_X E z b D cI cZ p s m args meth c) (F : a_F E l z b D cI cZ p e s m args below meth c Qf) (hL : a_L z b (eM E).2.2.1 ls lsA) (hS : va_S (fun q => z ≤ q) s.heap H locs)
    (hr : va_Run p l e (a_Rm E.1 E.2.1 E.2.2.1) s m args below meth c H locs c1 s1 k1 n1 (F0 m pc lsA st0) (st.map (a_v z b)) (fun st oc t => (∃ (r : Option Value) (h' : List aC), Q' r h' ∧ oc = .returned (r.map (a_v z b)) ∧ a_W z b D cI cZ h' t) ∧ va_F (fun q => z ≤ q) st t) (fun q => z ≤ q))
    (k : ∀ (r : Option Value) (h' : List aC), Q' r h' → aGo E (pc + 3) ls (r.toList ++ st) h' (c1 + k1) (s1 + n1)) : W p l e (a_Rm E.1 E.2.1 E.2.2.1) s m args below meth c H locs c1 s1 Qf (F0 m pc lsA st0) := by
  intro T hT X1
  obtain ⟨v, st₀, t, T', L, h0, X', hLo, e1, e2, ⟨⟨r, h', hq, hv, hW⟩, hz, hk⟩, stp⟩ := hr T hT X1
  cases hv
  rw [h0] at hz hk
  have hS' : va_S (fun q => z ≤ q) s.heap T'.heap (locs ++ L) := ⟨Nat.le_trans hS.1 (by rw [e1]; exact hz), fun q h1 h2 => by rw [e1, hk q (Nat.lt_of_lt_of_le h1 hS.1) h2]; exact hS.2.1 q h1 h2, fun q hq => by
      rcases List.mem_append.mp hq with h | h
      · exact hS.2.2 q h
      · exact hLo q h⟩
  have k2 := k r h' hq l z b D cI cZ p e s m args below meth c Qf X F T'.heap (locs ++ L) lsA hL (by rw [e1]; exact hW.1) hS' T' rfl X'
  obtain ⟨t2, a1, b1⟩ := k2
  refine ⟨t2, stp t2 ?_, b1⟩
  have e9 := a_mapl z b r st
  simp only [F0] at a1 ⊢
  rw [e9]
  exact a1
set_option maxHeartbeats 2000000 in
theorem a_room {z b : Nat} {st : List Value} (h : st.length ≤ 8) (hc : ∀ v ∈ st, v.category = 1) : ((st.map (a_v z b)).map fun v => v.category).sum ≤ 8 := by
  have : ((st.map (a_v z b)).map fun v => v.category).sum = st.length := by
    clear h
    induction st with
    | nil => rfl
    | cons v t ih =>
      simp only [List.map_cons, List.sum_cons, List.length_cons]
      rw [ih (fun w hw => hc w (List.mem_cons_of_mem _ hw)), a_cat (hc v List.mem_cons_self)]
      omega
  rw [this]; exact h
theorem a_lw {n : Nat} {M : aM} (h : (parseMethodDescriptor M.1.desc).map (fun d => d.parameters.length) = some n) : ∀ sig, parseMethodDescriptor M.1.desc = some sig → n = sig.parameters.length := fun sig hs => by
  rw [hs] at h
  exact (Option.some.inj h).symm
set_option maxHeartbeats 2000000 in
theorem g_callV {E : aE} {pc pc1 : Nat} {ls st : List Value} {h : List aC} {c1 s1 : Nat} {idx d1 k1 n1 nn : Nat} {M : aM} {As : List Value} {Q1 : aQ} {q : Nat} {ci : Nat} {fs : List Value} (hd : decode (eM E).2.1 pc = .ok (.invokevirtual idx, 3)) (hp : pc + 3 = pc1) (hlk : Cond.methodLink (eM E).1.cls idx M.1 ∈ a_g) (hmt : a_mv M ci nn) (hnn : As.length = nn) (hc : h[q]? = some (.inr (ci, fs))) (hM : aRet d1 k1 n1 M (.ref q :: As) h Q1) (hdp : d1 + 1 ≤ E.1) (hst : st.length ≤ 8) (hk1 : c1 + k1 ≤ E.2.1) (hn1 : s1 + n1 ≤ E.2.2.1) (hct : ∀ v ∈ st, v.category = 1)
    (k : ∀ (r : Option Value) (h' : List aC), Q1 r h' → aGo E pc1 ls (r.toList ++ st) h' (c1 + k1) (s1 + n1)) : aGo E pc ls (As.reverse ++ .ref q :: st) h c1 s1 := by
  subst hp
  intro l z b D cI cZ p e s m args below meth c Qf X F H locs lsA hL hH hS
  obtain ⟨⟨hcode, hini, hy, hpa, hml⟩, hin, hse, T, N, hcl⟩ := hmt
  have hts := X.2.2.2.2.1
  have hMet := hM l z b D cI cZ
  have hroom : (a_Rm d1 k1 n1).frames + 1 ≤ (a_Rm E.1 E.2.1 E.2.2.1).frames ∧ 8 + (M.2.2.1 + 11) + (a_Rm d1 k1 n1).locals ≤ (a_Rm E.1 E.2.1 E.2.2.1).locals := ⟨hdp, by simp only [a_Rm]; omega⟩
  obtain ⟨rr, g1, cell, g2, g3, g4, -⟩ := hH.2 q _ hc
  refine a_after X F hL hS (va_runV (As := As.map (a_v z b)) (rest := st.map (a_v z b)) (b := z + q) (C := M.1.cls) (n := nn) ⟨X.1, X.2.1, X.2.2.1, X.2.2.2.1, hts⟩ hMet ⟨⟨rfl, rfl, hroom.1, hroom.2, pay_in hts (a_good M hcode), List.mem_cons_self, hts _ hcode, hts _ hini, hy, a_lw hpa, hts _ hlk⟩, hts _ hin, hts _ hse⟩ ⟨a_blind, ⟨cell, g2, by rw [g4]; rfl, by rw [g3]; exact (X.2.2.2.2.2.2.1.1 ci _ hcl).2.1⟩, fun U hU hW => ⟨by simp [a_v], by rw [hU]; exact hH, va_K.moved hW.alike X.2.2.2.2.2.2.1, X.2.2.2.2.2.1.warm hW⟩⟩ rfl (by rw [List.length_map]; exact hnn) hL.1.1 (by simp [a_v]) (lv_room (a_room hst hct)) hd ⟨hk1, hn1⟩) k
set_option maxHeartbeats 2000000 in
theorem g_callS {E : aE} {pc pc1 : Nat} {ls st : List Value} {h : List aC} {c1 s1 : Nat} {idx d1 k1 n1 nn : Nat} {M : aM} {As : List Value} {Q1 : aQ} (hd : decode (eM E).2.1 pc = .ok (.invokestatic idx, 3)) (hp : pc + 3 = pc1) (hlk : Cond.methodLink (eM E).1.cls idx M.1 ∈ a_g) (hmt : a_ms M nn) (hnn : As.length = nn) (hM : aRet d1 k1 n1 M As h Q1) (hdp : d1 + 1 ≤ E.1) (hst : st.length ≤ 8) (hk1 : c1 + k1 ≤ E.2.1) (hn1 : s1 + n1 ≤ E.2.2.1) (hct : ∀ v ∈ st, v.category = 1)
    (k : ∀ (r : Option Value) (h' : List aC), Q1 r h' → aGo E pc1 ls (r.toList ++ st) h' (c1 + k1) (s1 + n1)) : aGo E pc ls (As.reverse ++ st) h c1 s1 := by
  subst hp
  intro l z b D cI cZ p e s m args below meth c Qf X F H locs lsA hL hH hS
  obtain ⟨⟨hcode, hini, hy, hpa, hml⟩, hsta⟩ := hmt
  have hts := X.2.2.2.2.1
  have hMet := hM l z b D cI cZ
  have hroom : (a_Rm d1 k1 n1).frames + 1 ≤ (a_Rm E.1 E.2.1 E.2.2.1).frames ∧ 8 + (M.2.2.1 + 11) + (a_Rm d1 k1 n1).locals ≤ (a_Rm E.1 E.2.1 E.2.2.1).locals := ⟨hdp, by simp only [a_Rm]; omega⟩
  refine a_after X F hL hS (va_runS (As := As.map (a_v z b)) (rest := st.map (a_v z b)) (n := nn) ⟨X.1, X.2.1, X.2.2.1, X.2.2.2.1, hts⟩ hMet ⟨⟨rfl, rfl, hroom.1, hroom.2, pay_in hts (a_good M hcode), List.mem_cons_self, hts _ hcode, hts _ hini, hy, a_lw hpa, hts _ hlk⟩, hts _ hsta⟩ ⟨a_blind, fun U hU hW => ⟨by simp [a_v], by rw [hU]; exact hH, va_K.moved hW.alike X.2.2.2.2.2.2.1, X.2.2.2.2.2.1.warm hW⟩⟩ rfl (by rw [List.length_map]; exact hnn) hL.1.1 (by simp [a_v]) (lv_room (a_room hst hct)) hd ⟨hk1, hn1⟩) k
set_option maxHeartbeats 2000000 in
theorem g_callSN {E : aE} {pc pc1 : Nat} {ls st : List Value} {h : List aC} {c1 s1 : Nat} {idx d1 k1 n1 nn : Nat} {M : aM} {As : List Value} {Q1 : aQ} {own host : String} (hd : decode (eM E).2.1 pc = .ok (.invokestatic idx, 3)) (hp : pc + 3 = pc1) (hlk : (eM E).1.cls = own ∧ (own, idx, M.1, host) ∈ a_nl) (hmt : a_ms M nn) (hnn : As.length = nn) (hM : aRet d1 k1 n1 M As h Q1) (hdp : d1 + 1 ≤ E.1) (hst : st.length ≤ 8) (hk1 : c1 + k1 ≤ E.2.1) (hn1 : s1 + n1 ≤ E.2.2.1) (hct : ∀ v ∈ st, v.category = 1)
    (k : ∀ (r : Option Value) (h' : List aC), Q1 r h' → aGo E pc1 ls (r.toList ++ st) h' (c1 + k1) (s1 + n1)) : aGo E pc ls (As.reverse ++ st) h c1 s1 := by
  subst hp
  intro l z b D cI cZ p e s m args below meth c Qf X F H locs lsA hL hH hS
  obtain ⟨⟨hcode, hini, hy, hpa, hml⟩, hsta⟩ := hmt
  have hts := X.2.2.2.2.1
  have hMet := hM l z b D cI cZ
  have hroom : (a_Rm d1 k1 n1).frames + 1 ≤ (a_Rm E.1 E.2.1 E.2.2.1).frames ∧ 8 + (M.2.2.1 + 11) + (a_Rm d1 k1 n1).locals ≤ (a_Rm E.1 E.2.1 E.2.2.1).locals := ⟨hdp, by simp only [a_Rm]; omega⟩
  have hlk1 : (Cond.methodLinkNest (eM E).1.cls idx M.1 host).before args s = true := by rw [hlk.1]; exact va_Nw.use rfl (X.2.2.2.2.2.1 _ hlk.2)
  refine a_after X F hL hS (va_runSN (As := As.map (a_v z b)) (rest := st.map (a_v z b)) (n := nn) ⟨X.1, X.2.1, X.2.2.1, X.2.2.2.1, hts⟩ hMet ⟨⟨⟨rfl, rfl, hroom.1, hroom.2, pay_in hts (a_good M hcode), List.mem_cons_self⟩, hts _ hcode, hts _ hini, hy, a_lw hpa, hlk1⟩, hts _ hsta, trivial⟩ ⟨a_blind, fun U hU hW => ⟨by simp [a_v], by rw [hU]; exact hH, va_K.moved hW.alike X.2.2.2.2.2.2.1, X.2.2.2.2.2.1.warm hW⟩⟩ rfl (by rw [List.length_map]; exact hnn) hL.1.1 (by simp [a_v]) (lv_room (a_room hst hct)) hd ⟨hk1, hn1⟩) k
set_option maxHeartbeats 2000000 in
theorem g_callI {E : aE} {pc pc1 : Nat} {ls st : List Value} {h : List aC} {c1 s1 : Nat} {idx d1 k1 n1 nn : Nat} {M : aM} {As : List Value} {Q1 : aQ} {q : Nat} (hd : decode (eM E).2.1 pc = .ok (.invokespecial idx, 3)) (hp : pc + 3 = pc1) (hlk : Cond.methodLink (eM E).1.cls idx M.1 ∈ a_g) (hmt : a_mi M nn) (hnn : As.length = nn) (hM : aRet d1 k1 n1 M (.ref q :: As) h Q1) (hdp : d1 + 1 ≤ E.1) (hst : st.length ≤ 8) (hk1 : c1 + k1 ≤ E.2.1) (hn1 : s1 + n1 ≤ E.2.2.1) (hct : ∀ v ∈ st, v.category = 1)
    (k : ∀ (r : Option Value) (h' : List aC), Q1 r h' → aGo E pc1 ls (r.toList ++ st) h' (c1 + k1) (s1 + n1)) : aGo E pc ls (As.reverse ++ .ref q :: st) h c1 s1 := by
  subst hp
  intro l z b D cI cZ p e s m args below meth c Qf X F H locs lsA hL hH hS
  obtain ⟨⟨hcode, hini, hy, hpa, hml⟩, hnm, hret, hin⟩ := hmt
  have hts := X.2.2.2.2.1
  have hMet := hM l z b D cI cZ
  have hroom : (a_Rm d1 k1 n1).frames + 1 ≤ (a_Rm E.1 E.2.1 E.2.2.1).frames ∧ 8 + (M.2.2.1 + 11) + (a_Rm d1 k1 n1).locals ≤ (a_Rm E.1 E.2.1 E.2.2.1).locals := ⟨hdp, by simp only [a_Rm]; omega⟩
  have hcode0 : Cond.code M.1 M.2.1 M.2.2.1 none ∈ a_g := by rw [← hret]; exact hcode
  have hws0 : Cond.code M.1 M.2.1 M.2.2.1 none ∈ a_ws M := by rw [← hret]; exact List.mem_cons_self
  refine a_after X F hL hS (va_runI (As := As.map (a_v z b)) (rest := st.map (a_v z b)) (b := z + q) (n := nn) ⟨X.1, X.2.1, X.2.2.1, X.2.2.2.1, hts⟩ hMet ⟨⟨rfl, rfl, hroom.1, hroom.2, pay_in hts (a_good M hcode), hws0, hts _ hcode0, hts _ hini, hy, a_lw hpa, hts _ hlk⟩, hnm, hts _ hin⟩ ⟨a_blind, fun U hU hW => ⟨by simp [a_v], by rw [hU]; exact hH, va_K.moved hW.alike X.2.2.2.2.2.2.1, X.2.2.2.2.2.1.warm hW⟩⟩ rfl (by rw [List.length_map]; exact hnn) hL.1.1 (by simp [a_v]) (lv_room (a_room hst hct)) hd ⟨hk1, hn1⟩) k
set_option maxHeartbeats 2000000 in
theorem g_callIN {E : aE} {pc pc1 : Nat} {ls st : List Value} {h : List aC} {c1 s1 : Nat} {idx d1 k1 n1 nn : Nat} {M : aM} {As : List Value} {Q1 : aQ} {q : Nat} {own host : String} (hd : decode (eM E).2.1 pc = .ok (.invokespecial idx, 3)) (hp : pc + 3 = pc1) (hlk : (eM E).1.cls = own ∧ (own, idx, M.1, host) ∈ a_nl) (hmt : a_mi M nn) (hnn : As.length = nn) (hM : aRet d1 k1 n1 M (.ref q :: As) h Q1) (hdp : d1 + 1 ≤ E.1) (hst : st.length ≤ 8) (hk1 : c1 + k1 ≤ E.2.1) (hn1 : s1 + n1 ≤ E.2.2.1) (hct : ∀ v ∈ st, v.category = 1)
    (k : ∀ (r : Option Value) (h' : List aC), Q1 r h' → aGo E pc1 ls (r.toList ++ st) h' (c1 + k1) (s1 + n1)) : aGo E pc ls (As.reverse ++ .ref q :: st) h c1 s1 := by
  subst hp
  intro l z b D cI cZ p e s m args below meth c Qf X F H locs lsA hL hH hS
  obtain ⟨⟨hcode, hini, hy, hpa, hml⟩, hnm, hret, hin⟩ := hmt
  have hts := X.2.2.2.2.1
  have hMet := hM l z b D cI cZ
  have hroom : (a_Rm d1 k1 n1).frames + 1 ≤ (a_Rm E.1 E.2.1 E.2.2.1).frames ∧ 8 + (M.2.2.1 + 11) + (a_Rm d1 k1 n1).locals ≤ (a_Rm E.1 E.2.1 E.2.2.1).locals := ⟨hdp, by simp only [a_Rm]; omega⟩
  have hcode0 : Cond.code M.1 M.2.1 M.2.2.1 none ∈ a_g := by rw [← hret]; exact hcode
  have hws0 : Cond.code M.1 M.2.1 M.2.2.1 none ∈ a_ws M := by rw [← hret]; exact List.mem_cons_self
  have hlk1 : (Cond.methodLinkNest (eM E).1.cls idx M.1 host).before args s = true := by rw [hlk.1]; exact va_Nw.use rfl (X.2.2.2.2.2.1 _ hlk.2)
  refine a_after X F hL hS (va_runIN (As := As.map (a_v z b)) (rest := st.map (a_v z b)) (b := z + q) (n := nn) ⟨X.1, X.2.1, X.2.2.1, X.2.2.2.1, hts⟩ hMet ⟨⟨⟨rfl, rfl, hroom.1, hroom.2, pay_in hts (a_good M hcode), hws0⟩, hts _ hcode0, hts _ hini, hy, a_lw hpa, hlk1⟩, hnm, hts _ hin⟩ ⟨a_blind, fun U hU hW => ⟨by simp [a_v], by rw [hU]; exact hH, va_K.moved hW.alike X.2.2.2.2.2.2.1, X.2.2.2.2.2.1.warm hW⟩⟩ rfl (by rw [List.length_map]; exact hnn) hL.1.1 (by simp [a_v]) (lv_room (a_room hst hct)) hd ⟨hk1, hn1⟩) k
set_option maxHeartbeats 2000000 in
theorem g_objInit {E : aE} {pc pc1 : Nat} {ls st : List Value} {h : List aC} {c1 s1 : Nat} {idx q : Nat} (hd : decode (eM E).2.1 pc = .ok (.invokespecial idx, 3)) (hp : pc + 3 = pc1) (hlk : Cond.methodLink (eM E).1.cls idx Lib.objectInit ∈ a_g) (h2 : Cond.instanceMethod Lib.objectInit ∈ a_g) (h3 : Cond.code Lib.objectInit ⟨#[0xb1]⟩ 1 none ∈ a_g) (hdp : 1 ≤ E.1) (hst : st.length ≤ 8) (hct : ∀ v ∈ st, v.category = 1)
    (k : aGo E pc1 ls st h c1 s1) : aGo E pc ls (.ref q :: st) h c1 s1 := by
  subst hp
  intro l z b D cI cZ p e s m args below meth c Qf X F H locs lsA hL hH hS
  have hr := a_room (z := z) (b := b) hst hct
  exact W.objInit X.1 X.2.1 X.2.2.2.1 (X.2.2.2.2.1 _ hlk) (X.2.2.2.2.1 _ h2) (X.2.2.2.2.1 _ h3) rfl (by rw [X.2.2.1]; exact hL.1.1) rfl hd hdp (by have := lv_room (m := m) (pc := pc) (ls := lsA) (rest := []) hr; simp only [a_Rm, JFrame.monitorRoom] at *; omega) (k l z b D cI cZ p e s m args below meth c Qf X F H locs lsA hL hH hS)
