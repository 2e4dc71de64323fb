set_option maxHeartbeats 1000000 in
theorem g_iconst {E : aE} {pc pc1 : Nat} {ls st : List Value} {h : List aC} {c1 s1 : Nat} {n : Int} {v : Int32} (hd : decode (eM E).2.1 pc = .ok (.iconst n, 1)) (hp : pc + 1 = pc1) (hv : Int32.ofInt n = v)
    (k : aGo E pc1 ls (.int v :: st) h c1 s1) : aGo E pc ls st h c1 s1 := by
  subst hp
  intro l z b D cI cZ p e s m args below meth c Qf X F H locs lsA hL hH hS
  exact lv_iconst X.1 X.2.1 hd hv (k l z b D cI cZ p e s m args below meth c Qf X F H locs lsA hL hH hS)
set_option maxHeartbeats 1000000 in
theorem g_bipush {E : aE} {pc pc1 : Nat} {ls st : List Value} {h : List aC} {c1 s1 : Nat} {n : Int} {v : Int32} (hd : decode (eM E).2.1 pc = .ok (.bipush n, 2)) (hp : pc + 2 = pc1) (hv : (Int8.ofInt n).toInt32 = v)
    (k : aGo E pc1 ls (.int v :: st) h c1 s1) : aGo E pc ls st h c1 s1 := by
  subst hp
  intro l z b D cI cZ p e s m args below meth c Qf X F H locs lsA hL hH hS
  exact lv_bipush X.1 X.2.1 hd hv (k l z b D cI cZ p e s m args below meth c Qf X F H locs lsA hL hH hS)
set_option maxHeartbeats 1000000 in
theorem g_sipush {E : aE} {pc pc1 : Nat} {ls st : List Value} {h : List aC} {c1 s1 : Nat} {n : Int} {v : Int32} (hd : decode (eM E).2.1 pc = .ok (.sipush n, 3)) (hp : pc + 3 = pc1) (hv : (Int16.ofInt n).toInt32 = v)
    (k : aGo E pc1 ls (.int v :: st) h c1 s1) : aGo E pc ls st h c1 s1 := by
  subst hp
  intro l z b D cI cZ p e s m args below meth c Qf X F H locs lsA hL hH hS
  exact lv_sipush X.1 X.2.1 hd hv (k l z b D cI cZ p e s m args below meth c Qf X F H locs lsA hL hH hS)
set_option maxHeartbeats 1000000 in
theorem g_ldc {E : aE} {pc pc1 : Nat} {ls st : List Value} {h : List aC} {c1 s1 : Nat} {i : Nat} {v : Int32} (hd : decode (eM E).2.1 pc = .ok (.ldc i, 2)) (hp : pc + 2 = pc1) (hv : Cond.constant (eM E).1.cls i v ∈ a_g)
    (k : aGo E pc1 ls (.int v :: st) h c1 s1) : aGo E pc ls st h c1 s1 := by
  subst hp
  intro l z b D cI cZ p e s m args below meth c Qf X F H locs lsA hL hH hS
  exact lv_ldc X.1 X.2.1 X.2.2.2.1 (X.2.2.2.2.1 _ hv) hd (k l z b D cI cZ p e s m args below meth c Qf X F H locs lsA hL hH hS)
set_option maxHeartbeats 1000000 in
theorem g_ldcw {E : aE} {pc pc1 : Nat} {ls st : List Value} {h : List aC} {c1 s1 : Nat} {i : Nat} {v : Int32} (hd : decode (eM E).2.1 pc = .ok (.ldc_w i, 3)) (hp : pc + 3 = pc1) (hv : Cond.constant (eM E).1.cls i v ∈ a_g)
    (k : aGo E pc1 ls (.int v :: st) h c1 s1) : aGo E pc ls st h c1 s1 := by
  subst hp
  intro l z b D cI cZ p e s m args below meth c Qf X F H locs lsA hL hH hS
  exact lv_ldcw X.1 X.2.1 X.2.2.2.1 (X.2.2.2.2.1 _ hv) hd (k l z b D cI cZ p e s m args below meth c Qf X F H locs lsA hL hH hS)
set_option maxHeartbeats 1000000 in
theorem g_iload_n {E : aE} {pc pc1 : Nat} {ls st : List Value} {h : List aC} {c1 s1 : Nat} {kf : Fin 4} {i : Nat} {x : Int32} (hd : decode (eM E).2.1 pc = .ok (.iload_n kf, 1)) (hp : pc + 1 = pc1) (hi : (kf : Nat) = i) (hl : ls[i]? = some (.int x))
    (k : aGo E pc1 ls (.int x :: st) h c1 s1) : aGo E pc ls st h c1 s1 := by
  subst hp
  intro l z b D cI cZ p e s m args below meth c Qf X F H locs lsA hL hH hS
  exact lv_iload_n X.1 X.2.1 hd hi (hL.at hl (by intro h; cases h)) (k l z b D cI cZ p e s m args below meth c Qf X F H locs lsA hL hH hS)
set_option maxHeartbeats 1000000 in
theorem g_iload {E : aE} {pc pc1 : Nat} {ls st : List Value} {h : List aC} {c1 s1 : Nat} {i : Nat} {x : Int32} (hd : decode (eM E).2.1 pc = .ok (.iload i, 2)) (hp : pc + 2 = pc1) (hl : ls[i]? = some (.int x))
    (k : aGo E pc1 ls (.int x :: st) h c1 s1) : aGo E pc ls st h c1 s1 := by
  subst hp
  intro l z b D cI cZ p e s m args below meth c Qf X F H locs lsA hL hH hS
  exact lv_iload X.1 X.2.1 hd (hL.at hl (by intro h; cases h)) (k l z b D cI cZ p e s m args below meth c Qf X F H locs lsA hL hH hS)
set_option maxHeartbeats 1000000 in
theorem g_aload_n {E : aE} {pc pc1 : Nat} {ls st : List Value} {h : List aC} {c1 s1 : Nat} {kf : Fin 4} {i x : Nat} (hd : decode (eM E).2.1 pc = .ok (.aload_n kf, 1)) (hp : pc + 1 = pc1) (hi : (kf : Nat) = i) (hl : ls[i]? = some (.ref x))
    (k : aGo E pc1 ls (.ref x :: st) h c1 s1) : aGo E pc ls st h c1 s1 := by
  subst hp
  intro l z b D cI cZ p e s m args below meth c Qf X F H locs lsA hL hH hS
  exact lv_aload_n (x := z + x) X.1 X.2.1 hd hi (hL.at hl (by intro h; cases h)) (k l z b D cI cZ p e s m args below meth c Qf X F H locs lsA hL hH hS)
set_option maxHeartbeats 1000000 in
theorem g_aload {E : aE} {pc pc1 : Nat} {ls st : List Value} {h : List aC} {c1 s1 : Nat} {i x : Nat} (hd : decode (eM E).2.1 pc = .ok (.aload i, 2)) (hp : pc + 2 = pc1) (hl : ls[i]? = some (.ref x))
    (k : aGo E pc1 ls (.ref x :: st) h c1 s1) : aGo E pc ls st h c1 s1 := by
  subst hp
  intro l z b D cI cZ p e s m args below meth c Qf X F H locs lsA hL hH hS
  exact lv_aload (x := z + x) X.1 X.2.1 hd (hL.at hl (by intro h; cases h)) (k l z b D cI cZ p e s m args below meth c Qf X F H locs lsA hL hH hS)
set_option maxHeartbeats 1000000 in
theorem g_sload_n {E : aE} {pc pc1 : Nat} {ls st : List Value} {h : List aC} {c1 s1 : Nat} {kf : Fin 4} {i : Nat} {x : UInt32} (hd : decode (eM E).2.1 pc = .ok (.aload_n kf, 1)) (hp : pc + 1 = pc1) (hi : (kf : Nat) = i) (hl : ls[i]? = some (.float x))
    (k : aGo E pc1 ls (.float x :: st) h c1 s1) : aGo E pc ls st h c1 s1 := by
  subst hp
  intro l z b D cI cZ p e s m args below meth c Qf X F H locs lsA hL hH hS
  exact lv_aload_n (x := b) X.1 X.2.1 hd hi (hL.at hl (by intro h; cases h)) (k l z b D cI cZ p e s m args below meth c Qf X F H locs lsA hL hH hS)
set_option maxHeartbeats 1000000 in
theorem g_istore_n {E : aE} {pc pc1 : Nat} {ls st : List Value} {h : List aC} {c1 s1 : Nat} {kf : Fin 4} {i : Nat} {x : Int32} (hd : decode (eM E).2.1 pc = .ok (.istore_n kf, 1)) (hp : pc + 1 = pc1) (hi : (kf : Nat) = i) (hn : i < (eM E).2.2.1)
    (k : aGo E pc1 (ls.set i (.int x)) st h c1 s1) : aGo E pc ls (.int x :: st) h c1 s1 := by
  subst hp
  intro l z b D cI cZ p e s m args below meth c Qf X F H locs lsA hL hH hS
  exact lv_istore_n X.1 X.2.1 hd hi (a_l0_has hL) hn rfl (fun lsB hB => k l z b D cI cZ p e s m args below meth c Qf X F H locs lsB (hL.put rfl hB) hH hS)
set_option maxHeartbeats 1000000 in
theorem g_istore {E : aE} {pc pc1 : Nat} {ls st : List Value} {h : List aC} {c1 s1 : Nat} {i : Nat} {x : Int32} (hd : decode (eM E).2.1 pc = .ok (.istore i, 2)) (hp : pc + 2 = pc1) (hn : i < (eM E).2.2.1)
    (k : aGo E pc1 (ls.set i (.int x)) st h c1 s1) : aGo E pc ls (.int x :: st) h c1 s1 := by
  subst hp
  intro l z b D cI cZ p e s m args below meth c Qf X F H locs lsA hL hH hS
  exact lv_istore X.1 X.2.1 hd (a_l0_has hL) hn rfl (fun lsB hB => k l z b D cI cZ p e s m args below meth c Qf X F H locs lsB (hL.put rfl hB) hH hS)
set_option maxHeartbeats 1000000 in
theorem g_astore_n {E : aE} {pc pc1 : Nat} {ls st : List Value} {h : List aC} {c1 s1 : Nat} {kf : Fin 4} {i x : Nat} (hd : decode (eM E).2.1 pc = .ok (.astore_n kf, 1)) (hp : pc + 1 = pc1) (hi : (kf : Nat) = i) (hn : i < (eM E).2.2.1)
    (k : aGo E pc1 (ls.set i (.ref x)) st h c1 s1) : aGo E pc ls (.ref x :: st) h c1 s1 := by
  subst hp
  intro l z b D cI cZ p e s m args below meth c Qf X F H locs lsA hL hH hS
  exact lv_astore_n (x := z + x) X.1 X.2.1 hd hi (a_l0_has hL) hn rfl (fun lsB hB => k l z b D cI cZ p e s m args below meth c Qf X F H locs lsB (hL.put rfl hB) hH hS)
set_option maxHeartbeats 1000000 in
theorem g_iinc {E : aE} {pc pc1 : Nat} {ls st : List Value} {h : List aC} {c1 s1 : Nat} {i : Nat} {n : Int} {x v : Int32} (hd : decode (eM E).2.1 pc = .ok (.iinc i n, 3)) (hp : pc + 3 = pc1) (hl : ls[i]? = some (.int x)) (hv : x + Int32.ofInt n = v)
    (k : aGo E pc1 (ls.set i (.int v)) st h c1 s1) : aGo E pc ls st h c1 s1 := by
  subst hp
  intro l z b D cI cZ p e s m args below meth c Qf X F H locs lsA hL hH hS
  obtain ⟨kk, hkk⟩ := List.getElem?_of_mem (a_l0_in (z := z) (b := b) hl (by intro h; cases h))
  have hn : i < (eM E).2.2.1 := by rw [← hL.2.1]; exact (List.getElem?_eq_some_iff.mp hl).1
  exact lv_iinc X.1 X.2.1 hd (a_l0_has hL) hkk hv hn rfl (fun lsB hB => k l z b D cI cZ p e s m args below meth c Qf X F H locs lsB (hL.put rfl hB) hH hS)
set_option maxHeartbeats 1000000 in
theorem g_dup {E : aE} {pc pc1 : Nat} {ls st : List Value} {h : List aC} {c1 s1 : Nat} {v : Value} (hd : decode (eM E).2.1 pc = .ok (.dup, 1)) (hp : pc + 1 = pc1) (hc : v.category = 1)
    (k : aGo E pc1 ls (v :: v :: st) h c1 s1) : aGo E pc ls (v :: st) h c1 s1 := by
  subst hp
  intro l z b D cI cZ p e s m args below meth c Qf X F H locs lsA hL hH hS
  exact lv_dup X.1 X.2.1 hd (a_cat hc) (k l z b D cI cZ p e s m args below meth c Qf X F H locs lsA hL hH hS)
set_option maxHeartbeats 1000000 in
theorem g_dup2 {E : aE} {pc pc1 : Nat} {ls st : List Value} {h : List aC} {c1 s1 : Nat} {v w : Value} (hd : decode (eM E).2.1 pc = .ok (.dup2, 1)) (hp : pc + 1 = pc1) (hc : v.category = 1) (hc2 : w.category = 1)
    (k : aGo E pc1 ls (v :: w :: v :: w :: st) h c1 s1) : aGo E pc ls (v :: w :: st) h c1 s1 := by
  subst hp
  intro l z b D cI cZ p e s m args below meth c Qf X F H locs lsA hL hH hS
  exact lv_dup2_11 X.1 X.2.1 hd (a_cat hc) (a_cat hc2) (k l z b D cI cZ p e s m args below meth c Qf X F H locs lsA hL hH hS)
set_option maxHeartbeats 1000000 in
theorem g_pop {E : aE} {pc pc1 : Nat} {ls st : List Value} {h : List aC} {c1 s1 : Nat} {v : Value} (hd : decode (eM E).2.1 pc = .ok (.pop, 1)) (hp : pc + 1 = pc1) (hc : v.category = 1)
    (k : aGo E pc1 ls st h c1 s1) : aGo E pc ls (v :: st) h c1 s1 := by
  subst hp
  intro l z b D cI cZ p e s m args below meth c Qf X F H locs lsA hL hH hS
  exact lv_pop X.1 X.2.1 hd (a_cat hc) (k l z b D cI cZ p e s m args below meth c Qf X F H locs lsA hL hH hS)
set_option maxHeartbeats 1000000 in
theorem g_iadd {E : aE} {pc pc1 : Nat} {ls st : List Value} {h : List aC} {c1 s1 : Nat} {x y : Int32} (hd : decode (eM E).2.1 pc = .ok (.iadd, 1)) (hp : pc + 1 = pc1) 
    (k : aGo E pc1 ls (.int (x + y) :: st) h c1 s1) : aGo E pc ls (.int y :: .int x :: st) h c1 s1 := by
  subst hp
  intro l z b D cI cZ p e s m args below meth c Qf X F H locs lsA hL hH hS
  exact lv_iadd X.1 X.2.1 hd (k l z b D cI cZ p e s m args below meth c Qf X F H locs lsA hL hH hS)
set_option maxHeartbeats 1000000 in
theorem g_isub {E : aE} {pc pc1 : Nat} {ls st : List Value} {h : List aC} {c1 s1 : Nat} {x y : Int32} (hd : decode (eM E).2.1 pc = .ok (.isub, 1)) (hp : pc + 1 = pc1) 
    (k : aGo E pc1 ls (.int (x - y) :: st) h c1 s1) : aGo E pc ls (.int y :: .int x :: st) h c1 s1 := by
  subst hp
  intro l z b D cI cZ p e s m args below meth c Qf X F H locs lsA hL hH hS
  exact lv_isub X.1 X.2.1 hd (k l z b D cI cZ p e s m args below meth c Qf X F H locs lsA hL hH hS)
set_option maxHeartbeats 1000000 in
theorem g_imul {E : aE} {pc pc1 : Nat} {ls st : List Value} {h : List aC} {c1 s1 : Nat} {x y : Int32} (hd : decode (eM E).2.1 pc = .ok (.imul, 1)) (hp : pc + 1 = pc1) 
    (k : aGo E pc1 ls (.int (x * y) :: st) h c1 s1) : aGo E pc ls (.int y :: .int x :: st) h c1 s1 := by
  subst hp
  intro l z b D cI cZ p e s m args below meth c Qf X F H locs lsA hL hH hS
  exact lv_imul X.1 X.2.1 hd (k l z b D cI cZ p e s m args below meth c Qf X F H locs lsA hL hH hS)
set_option maxHeartbeats 1000000 in
theorem g_iand {E : aE} {pc pc1 : Nat} {ls st : List Value} {h : List aC} {c1 s1 : Nat} {x y : Int32} (hd : decode (eM E).2.1 pc = .ok (.iand, 1)) (hp : pc + 1 = pc1) 
    (k : aGo E pc1 ls (.int (x &&& y) :: st) h c1 s1) : aGo E pc ls (.int y :: .int x :: st) h c1 s1 := by
  subst hp
  intro l z b D cI cZ p e s m args below meth c Qf X F H locs lsA hL hH hS
  exact lv_iand X.1 X.2.1 hd (k l z b D cI cZ p e s m args below meth c Qf X F H locs lsA hL hH hS)
set_option maxHeartbeats 1000000 in
theorem g_ior {E : aE} {pc pc1 : Nat} {ls st : List Value} {h : List aC} {c1 s1 : Nat} {x y : Int32} (hd : decode (eM E).2.1 pc = .ok (.ior, 1)) (hp : pc + 1 = pc1) 
    (k : aGo E pc1 ls (.int (x ||| y) :: st) h c1 s1) : aGo E pc ls (.int y :: .int x :: st) h c1 s1 := by
  subst hp
  intro l z b D cI cZ p e s m args below meth c Qf X F H locs lsA hL hH hS
  exact lv_ior X.1 X.2.1 hd (k l z b D cI cZ p e s m args below meth c Qf X F H locs lsA hL hH hS)
set_option maxHeartbeats 1000000 in
theorem g_ixor {E : aE} {pc pc1 : Nat} {ls st : List Value} {h : List aC} {c1 s1 : Nat} {x y : Int32} (hd : decode (eM E).2.1 pc = .ok (.ixor, 1)) (hp : pc + 1 = pc1) 
    (k : aGo E pc1 ls (.int (x ^^^ y) :: st) h c1 s1) : aGo E pc ls (.int y :: .int x :: st) h c1 s1 := by
  subst hp
  intro l z b D cI cZ p e s m args below meth c Qf X F H locs lsA hL hH hS
  exact lv_ixor X.1 X.2.1 hd (k l z b D cI cZ p e s m args below meth c Qf X F H locs lsA hL hH hS)
set_option maxHeartbeats 1000000 in
theorem g_ishl {E : aE} {pc pc1 : Nat} {ls st : List Value} {h : List aC} {c1 s1 : Nat} {x y : Int32} (hd : decode (eM E).2.1 pc = .ok (.ishl, 1)) (hp : pc + 1 = pc1) 
    (k : aGo E pc1 ls (.int (x <<< (y &&& 31)) :: st) h c1 s1) : aGo E pc ls (.int y :: .int x :: st) h c1 s1 := by
  subst hp
  intro l z b D cI cZ p e s m args below meth c Qf X F H locs lsA hL hH hS
  exact lv_ishl X.1 X.2.1 hd (k l z b D cI cZ p e s m args below meth c Qf X F H locs lsA hL hH hS)
set_option maxHeartbeats 1000000 in
theorem g_ishr {E : aE} {pc pc1 : Nat} {ls st : List Value} {h : List aC} {c1 s1 : Nat} {x y : Int32} (hd : decode (eM E).2.1 pc = .ok (.ishr, 1)) (hp : pc + 1 = pc1) 
    (k : aGo E pc1 ls (.int (x >>> (y &&& 31)) :: st) h c1 s1) : aGo E pc ls (.int y :: .int x :: st) h c1 s1 := by
  subst hp
  intro l z b D cI cZ p e s m args below meth c Qf X F H locs lsA hL hH hS
  exact lv_ishr X.1 X.2.1 hd (k l z b D cI cZ p e s m args below meth c Qf X F H locs lsA hL hH hS)
set_option maxHeartbeats 1000000 in
theorem g_iushr {E : aE} {pc pc1 : Nat} {ls st : List Value} {h : List aC} {c1 s1 : Nat} {x y : Int32} (hd : decode (eM E).2.1 pc = .ok (.iushr, 1)) (hp : pc + 1 = pc1) 
    (k : aGo E pc1 ls (.int ((x.toUInt32 >>> (y.toUInt32 &&& Int32.toUInt32 31)).toInt32) :: st) h c1 s1) : aGo E pc ls (.int y :: .int x :: st) h c1 s1 := by
  subst hp
  intro l z b D cI cZ p e s m args below meth c Qf X F H locs lsA hL hH hS
  exact lv_iushr X.1 X.2.1 hd rfl (k l z b D cI cZ p e s m args below meth c Qf X F H locs lsA hL hH hS)
set_option maxHeartbeats 1000000 in
theorem g_idiv {E : aE} {pc pc1 : Nat} {ls st : List Value} {h : List aC} {c1 s1 : Nat} {x y : Int32} (hd : decode (eM E).2.1 pc = .ok (.idiv, 1)) (hp : pc + 1 = pc1) (hy : ¬ y = 0)
    (k : aGo E pc1 ls (.int (x / y) :: st) h c1 s1) : aGo E pc ls (.int y :: .int x :: st) h c1 s1 := by
  subst hp
  intro l z b D cI cZ p e s m args below meth c Qf X F H locs lsA hL hH hS
  exact lv_idiv X.1 X.2.1 hd hy (k l z b D cI cZ p e s m args below meth c Qf X F H locs lsA hL hH hS)
set_option maxHeartbeats 1000000 in
theorem g_irem {E : aE} {pc pc1 : Nat} {ls st : List Value} {h : List aC} {c1 s1 : Nat} {x y : Int32} (hd : decode (eM E).2.1 pc = .ok (.irem, 1)) (hp : pc + 1 = pc1) (hy : ¬ y = 0)
    (k : aGo E pc1 ls (.int (x - x / y * y) :: st) h c1 s1) : aGo E pc ls (.int y :: .int x :: st) h c1 s1 := by
  subst hp
  intro l z b D cI cZ p e s m args below meth c Qf X F H locs lsA hL hH hS
  exact lv_irem X.1 X.2.1 hd hy (k l z b D cI cZ p e s m args below meth c Qf X F H locs lsA hL hH hS)
set_option maxHeartbeats 1000000 in
theorem g_goto {E : aE} {pc tgt : Nat} {ls st : List Value} {h : List aC} {c1 s1 : Nat} {off : Int} (hd : decode (eM E).2.1 pc = .ok (.goto off, 3)) (ht : (pc : Int) + off = (tgt : Int))
    (k : aGo E tgt ls st h c1 s1) : aGo E pc ls st h c1 s1 := by
  intro l z b D cI cZ p e s m args below meth c Qf X F H locs lsA hL hH hS
  exact lv_goto X.1 X.2.1 hd ht (k l z b D cI cZ p e s m args below meth c Qf X F H locs lsA hL hH hS)
set_option maxHeartbeats 1000000 in
theorem g_icmp_eq {E : aE} {pc pc1 tgt : Nat} {ls st : List Value} {h : List aC} {c1 s1 : Nat} {off : Int} {x y : Int32} (hd : decode (eM E).2.1 pc = .ok (.if_icmp .eq off, 3)) (hp : pc + 3 = pc1) (ht : (pc : Int) + off = (tgt : Int))
    (kt : x = y → aGo E tgt ls st h c1 s1) (kf : ¬ x = y → aGo E pc1 ls st h c1 s1) : aGo E pc ls (.int y :: .int x :: st) h c1 s1 := by
  subst hp
  intro l z b D cI cZ p e s m args below meth c Qf X F H locs lsA hL hH hS
  exact lv_icmp_eq X.1 X.2.1 hd ht (fun hc => kt hc l z b D cI cZ p e s m args below meth c Qf X F H locs lsA hL hH hS) (fun hc => kf hc l z b D cI cZ p e s m args below meth c Qf X F H locs lsA hL hH hS)
set_option maxHeartbeats 1000000 in
theorem g_if_eq {E : aE} {pc pc1 tgt : Nat} {ls st : List Value} {h : List aC} {c1 s1 : Nat} {off : Int} {x : Int32} (hd : decode (eM E).2.1 pc = .ok (.ifCond .eq off, 3)) (hp : pc + 3 = pc1) (ht : (pc : Int) + off = (tgt : Int))
    (kt : x = 0 → aGo E tgt ls st h c1 s1) (kf : ¬ x = 0 → aGo E pc1 ls st h c1 s1) : aGo E pc ls (.int x :: st) h c1 s1 := by
  subst hp
  intro l z b D cI cZ p e s m args below meth c Qf X F H locs lsA hL hH hS
  exact lv_if_eq X.1 X.2.1 hd ht (fun hc => kt hc l z b D cI cZ p e s m args below meth c Qf X F H locs lsA hL hH hS) (fun hc => kf hc l z b D cI cZ p e s m args below meth c Qf X F H locs lsA hL hH hS)
set_option maxHeartbeats 1000000 in
theorem g_icmp_ne {E : aE} {pc pc1 tgt : Nat} {ls st : List Value} {h : List aC} {c1 s1 : Nat} {off : Int} {x y : Int32} (hd : decode (eM E).2.1 pc = .ok (.if_icmp .ne off, 3)) (hp : pc + 3 = pc1) (ht : (pc : Int) + off = (tgt : Int))
    (kt : ¬ x = y → aGo E tgt ls st h c1 s1) (kf : x = y → aGo E pc1 ls st h c1 s1) : aGo E pc ls (.int y :: .int x :: st) h c1 s1 := by
  subst hp
  intro l z b D cI cZ p e s m args below meth c Qf X F H locs lsA hL hH hS
  exact lv_icmp_ne X.1 X.2.1 hd ht (fun hc => kt hc l z b D cI cZ p e s m args below meth c Qf X F H locs lsA hL hH hS) (fun hc => kf hc l z b D cI cZ p e s m args below meth c Qf X F H locs lsA hL hH hS)
set_option maxHeartbeats 1000000 in
theorem g_if_ne {E : aE} {pc pc1 tgt : Nat} {ls st : List Value} {h : List aC} {c1 s1 : Nat} {off : Int} {x : Int32} (hd : decode (eM E).2.1 pc = .ok (.ifCond .ne off, 3)) (hp : pc + 3 = pc1) (ht : (pc : Int) + off = (tgt : Int))
    (kt : ¬ x = 0 → aGo E tgt ls st h c1 s1) (kf : x = 0 → aGo E pc1 ls st h c1 s1) : aGo E pc ls (.int x :: st) h c1 s1 := by
  subst hp
  intro l z b D cI cZ p e s m args below meth c Qf X F H locs lsA hL hH hS
  exact lv_if_ne X.1 X.2.1 hd ht (fun hc => kt hc l z b D cI cZ p e s m args below meth c Qf X F H locs lsA hL hH hS) (fun hc => kf hc l z b D cI cZ p e s m args below meth c Qf X F H locs lsA hL hH hS)
set_option maxHeartbeats 1000000 in
theorem g_icmp_lt {E : aE} {pc pc1 tgt : Nat} {ls st : List Value} {h : List aC} {c1 s1 : Nat} {off : Int} {x y : Int32} (hd : decode (eM E).2.1 pc = .ok (.if_icmp .lt off, 3)) (hp : pc + 3 = pc1) (ht : (pc : Int) + off = (tgt : Int))
    (kt : x < y → aGo E tgt ls st h c1 s1) (kf : ¬ x < y → aGo E pc1 ls st h c1 s1) : aGo E pc ls (.int y :: .int x :: st) h c1 s1 := by
  subst hp
  intro l z b D cI cZ p e s m args below meth c Qf X F H locs lsA hL hH hS
  exact lv_icmp_lt X.1 X.2.1 hd ht (fun hc => kt hc l z b D cI cZ p e s m args below meth c Qf X F H locs lsA hL hH hS) (fun hc => kf hc l z b D cI cZ p e s m args below meth c Qf X F H locs lsA hL hH hS)
set_option maxHeartbeats 1000000 in
theorem g_if_lt {E : aE} {pc pc1 tgt : Nat} {ls st : List Value} {h : List aC} {c1 s1 : Nat} {off : Int} {x : Int32} (hd : decode (eM E).2.1 pc = .ok (.ifCond .lt off, 3)) (hp : pc + 3 = pc1) (ht : (pc : Int) + off = (tgt : Int))
    (kt : x < 0 → aGo E tgt ls st h c1 s1) (kf : ¬ x < 0 → aGo E pc1 ls st h c1 s1) : aGo E pc ls (.int x :: st) h c1 s1 := by
  subst hp
  intro l z b D cI cZ p e s m args below meth c Qf X F H locs lsA hL hH hS
  exact lv_if_lt X.1 X.2.1 hd ht (fun hc => kt hc l z b D cI cZ p e s m args below meth c Qf X F H locs lsA hL hH hS) (fun hc => kf hc l z b D cI cZ p e s m args below meth c Qf X F H locs lsA hL hH hS)
set_option maxHeartbeats 1000000 in
theorem g_icmp_ge {E : aE} {pc pc1 tgt : Nat} {ls st : List Value} {h : List aC} {c1 s1 : Nat} {off : Int} {x y : Int32} (hd : decode (eM E).2.1 pc = .ok (.if_icmp .ge off, 3)) (hp : pc + 3 = pc1) (ht : (pc : Int) + off = (tgt : Int))
    (kt : y ≤ x → aGo E tgt ls st h c1 s1) (kf : ¬ y ≤ x → aGo E pc1 ls st h c1 s1) : aGo E pc ls (.int y :: .int x :: st) h c1 s1 := by
  subst hp
  intro l z b D cI cZ p e s m args below meth c Qf X F H locs lsA hL hH hS
  exact lv_icmp_ge X.1 X.2.1 hd ht (fun hc => kt hc l z b D cI cZ p e s m args below meth c Qf X F H locs lsA hL hH hS) (fun hc => kf hc l z b D cI cZ p e s m args below meth c Qf X F H locs lsA hL hH hS)
set_option maxHeartbeats 1000000 in
theorem g_if_ge {E : aE} {pc pc1 tgt : Nat} {ls st : List Value} {h : List aC} {c1 s1 : Nat} {off : Int} {x : Int32} (hd : decode (eM E).2.1 pc = .ok (.ifCond .ge off, 3)) (hp : pc + 3 = pc1) (ht : (pc : Int) + off = (tgt : Int))
    (kt : 0 ≤ x → aGo E tgt ls st h c1 s1) (kf : ¬ 0 ≤ x → aGo E pc1 ls st h c1 s1) : aGo E pc ls (.int x :: st) h c1 s1 := by
  subst hp
  intro l z b D cI cZ p e s m args below meth c Qf X F H locs lsA hL hH hS
  exact lv_if_ge X.1 X.2.1 hd ht (fun hc => kt hc l z b D cI cZ p e s m args below meth c Qf X F H locs lsA hL hH hS) (fun hc => kf hc l z b D cI cZ p e s m args below meth c Qf X F H locs lsA hL hH hS)
set_option maxHeartbeats 1000000 in
theorem g_icmp_gt {E : aE} {pc pc1 tgt : Nat} {ls st : List Value} {h : List aC} {c1 s1 : Nat} {off : Int} {x y : Int32} (hd : decode (eM E).2.1 pc = .ok (.if_icmp .gt off, 3)) (hp : pc + 3 = pc1) (ht : (pc : Int) + off = (tgt : Int))
    (kt : y < x → aGo E tgt ls st h c1 s1) (kf : ¬ y < x → aGo E pc1 ls st h c1 s1) : aGo E pc ls (.int y :: .int x :: st) h c1 s1 := by
  subst hp
  intro l z b D cI cZ p e s m args below meth c Qf X F H locs lsA hL hH hS
  exact lv_icmp_gt X.1 X.2.1 hd ht (fun hc => kt hc l z b D cI cZ p e s m args below meth c Qf X F H locs lsA hL hH hS) (fun hc => kf hc l z b D cI cZ p e s m args below meth c Qf X F H locs lsA hL hH hS)
set_option maxHeartbeats 1000000 in
theorem g_if_gt {E : aE} {pc pc1 tgt : Nat} {ls st : List Value} {h : List aC} {c1 s1 : Nat} {off : Int} {x : Int32} (hd : decode (eM E).2.1 pc = .ok (.ifCond .gt off, 3)) (hp : pc + 3 = pc1) (ht : (pc : Int) + off = (tgt : Int))
    (kt : 0 < x → aGo E tgt ls st h c1 s1) (kf : ¬ 0 < x → aGo E pc1 ls st h c1 s1) : aGo E pc ls (.int x :: st) h c1 s1 := by
  subst hp
  intro l z b D cI cZ p e s m args below meth c Qf X F H locs lsA hL hH hS
  exact lv_if_gt X.1 X.2.1 hd ht (fun hc => kt hc l z b D cI cZ p e s m args below meth c Qf X F H locs lsA hL hH hS) (fun hc => kf hc l z b D cI cZ p e s m args below meth c Qf X F H locs lsA hL hH hS)
set_option maxHeartbeats 1000000 in
theorem g_icmp_le {E : aE} {pc pc1 tgt : Nat} {ls st : List Value} {h : List aC} {c1 s1 : Nat} {off : Int} {x y : Int32} (hd : decode (eM E).2.1 pc = .ok (.if_icmp .le off, 3)) (hp : pc + 3 = pc1) (ht : (pc : Int) + off = (tgt : Int))
    (kt : x ≤ y → aGo E tgt ls st h c1 s1) (kf : ¬ x ≤ y → aGo E pc1 ls st h c1 s1) : aGo E pc ls (.int y :: .int x :: st) h c1 s1 := by
  subst hp
  intro l z b D cI cZ p e s m args below meth c Qf X F H locs lsA hL hH hS
  exact lv_icmp_le X.1 X.2.1 hd ht (fun hc => kt hc l z b D cI cZ p e s m args below meth c Qf X F H locs lsA hL hH hS) (fun hc => kf hc l z b D cI cZ p e s m args below meth c Qf X F H locs lsA hL hH hS)
set_option maxHeartbeats 1000000 in
theorem g_if_le {E : aE} {pc pc1 tgt : Nat} {ls st : List Value} {h : List aC} {c1 s1 : Nat} {off : Int} {x : Int32} (hd : decode (eM E).2.1 pc = .ok (.ifCond .le off, 3)) (hp : pc + 3 = pc1) (ht : (pc : Int) + off = (tgt : Int))
    (kt : x ≤ 0 → aGo E tgt ls st h c1 s1) (kf : ¬ x ≤ 0 → aGo E pc1 ls st h c1 s1) : aGo E pc ls (.int x :: st) h c1 s1 := by
  subst hp
  intro l z b D cI cZ p e s m args below meth c Qf X F H locs lsA hL hH hS
  exact lv_if_le X.1 X.2.1 hd ht (fun hc => kt hc l z b D cI cZ p e s m args below meth c Qf X F H locs lsA hL hH hS) (fun hc => kf hc l z b D cI cZ p e s m args below meth c Qf X F H locs lsA hL hH hS)
set_option maxHeartbeats 1000000 in
theorem g_tableIn {E : aE} {pc tgt : Nat} {ls st : List Value} {h : List aC} {c1 s1 : Nat} {dflt lo hi : Int} {offs : Array Int} {len : Nat} {x : Int32} {off : Int} (hd : decode (eM E).2.1 pc = .ok (.tableswitch dflt lo hi offs, len)) (h1 : ¬ x.toInt < lo) (h2 : ¬ hi < x.toInt) (ho : offs[(x.toInt - lo).toNat]? = some off) (ht : (pc : Int) + off = (tgt : Int))
    (k : aGo E tgt ls st h c1 s1) : aGo E pc ls (.int x :: st) h c1 s1 := by
  intro l z b D cI cZ p e s m args below meth c Qf X F H locs lsA hL hH hS
  exact lv_tableIn X.1 X.2.1 hd h1 h2 ho ht (k l z b D cI cZ p e s m args below meth c Qf X F H locs lsA hL hH hS)
set_option maxHeartbeats 1000000 in
theorem g_tableOut {E : aE} {pc tgt : Nat} {ls st : List Value} {h : List aC} {c1 s1 : Nat} {dflt lo hi : Int} {offs : Array Int} {len : Nat} {x : Int32} (hd : decode (eM E).2.1 pc = .ok (.tableswitch dflt lo hi offs, len)) (h1 : x.toInt < lo ∨ hi < x.toInt) (ht : (pc : Int) + dflt = (tgt : Int))
    (k : aGo E tgt ls st h c1 s1) : aGo E pc ls (.int x :: st) h c1 s1 := by
  intro l z b D cI cZ p e s m args below meth c Qf X F H locs lsA hL hH hS
  exact lv_tableOut X.1 X.2.1 hd h1 ht (k l z b D cI cZ p e s m args below meth c Qf X F H locs lsA hL hH hS)
set_option maxHeartbeats 1000000 in
theorem g_lookup {E : aE} {pc tgt : Nat} {ls st : List Value} {h : List aC} {c1 s1 : Nat} {dflt : Int} {ps : Array (Int × Int)} {len : Nat} {x : Int32} {off : Int} (hd : decode (eM E).2.1 pc = .ok (.lookupswitch dflt ps, len)) (hp : (ps.toList.zip (ps.toList.drop 1)).all (fun (a, next) => a.1 < next.1) = true) (ho : Op.lookupswitch.offset ps.toList dflt x.toInt = off) (ht : (pc : Int) + off = (tgt : Int))
    (k : aGo E tgt ls st h c1 s1) : aGo E pc ls (.int x :: st) h c1 s1 := by
  intro l z b D cI cZ p e s m args below meth c Qf X F H locs lsA hL hH hS
  exact lv_lookup X.1 X.2.1 hd hp ho ht (k l z b D cI cZ p e s m args below meth c Qf X F H locs lsA hL hH hS)
set_option maxHeartbeats 1000000 in
theorem g_iald {E : aE} {pc pc1 : Nat} {ls st : List Value} {h : List aC} {c1 s1 : Nat} {q n : Nat} {f : Nat → Int32} {i : Int32} (hd : decode (eM E).2.1 pc = .ok (.iaload, 1)) (hp : pc + 1 = pc1) (hc : h[q]? = some (.inl (false, n, f))) (hin : vp_in i n)
    (k : aGo E pc1 ls (.int (f i.toNatClampNeg) :: st) h c1 s1) : aGo E pc ls (.int i :: .ref q :: st) h c1 s1 := by
  subst hp
  intro l z b D cI cZ p e s m args below meth c Qf X F H locs lsA hL hH hS
  have hlt : i.toNatClampNeg < n := Nat.not_le.mp fun q => hin (Or.inr q)
  have hcell := hH.2 q _ hc
  exact W.iald (v := .int (f i.toNatClampNeg)) X.1 X.2.1 hcell ((X.2.2.2.2.2.2.1.2 0 _ rfl).1 n (fun j => .int (f j))) (fun q => by cases q) (by show ¬ (i < 0 ∨ (arrV _ _ _).slots.size ≤ _); rw [arrV_size]; exact hin) (by show (arrV _ _ _).slots[_]? = _; rw [arrV_read _ _ hlt]) rfl rfl hd (k l z b D cI cZ p e s m args below meth c Qf X F H locs lsA hL hH hS)
set_option maxHeartbeats 1000000 in
theorem g_zald {E : aE} {pc pc1 : Nat} {ls st : List Value} {h : List aC} {c1 s1 : Nat} {q n : Nat} {f : Nat → Int32} {i : Int32} (hd : decode (eM E).2.1 pc = .ok (.baload, 1)) (hp : pc + 1 = pc1) (hc : h[q]? = some (.inl (true, n, f))) (hin : vp_in i n)
    (k : aGo E pc1 ls (.int (f i.toNatClampNeg) :: st) h c1 s1) : aGo E pc ls (.int i :: .ref q :: st) h c1 s1 := by
  subst hp
  intro l z b D cI cZ p e s m args below meth c Qf X F H locs lsA hL hH hS
  have hlt : i.toNatClampNeg < n := Nat.not_le.mp fun q => hin (Or.inr q)
  have hcell := hH.2 q _ hc
  exact W.zald (v := .int (f i.toNatClampNeg)) X.1 X.2.1 hcell ((X.2.2.2.2.2.2.1.2 1 _ rfl).1 n (fun j => .int (f j))) (fun q => by cases q) (by show ¬ (i < 0 ∨ (arrV _ _ _).slots.size ≤ _); rw [arrV_size]; exact hin) (by show (arrV _ _ _).slots[_]? = _; rw [arrV_read _ _ hlt]) rfl rfl hd (k l z b D cI cZ p e s m args below meth c Qf X F H locs lsA hL hH hS)
set_option maxHeartbeats 1000000 in
theorem g_sld {E : aE} {pc pc1 : Nat} {ls st : List Value} {h : List aC} {c1 s1 : Nat} {L : Nat} {xs : Nat → Int32} {i : Int32} {w : UInt32} (hd : decode (eM E).2.1 pc = .ok (.iaload, 1)) (hp : pc + 1 = pc1) (hs : E.2.2.2.2.1 = some (L, xs)) (hin : vp_in i L)
    (k : aGo E pc1 ls (.int (xs i.toNatClampNeg) :: st) h c1 s1) : aGo E pc ls (.int i :: .float w :: st) h c1 s1 := by
  subst hp
  intro l z b D cI cZ p e s m args below meth c Qf X F H locs lsA hL hH hS
  obtain ⟨hX, hbl, hbA⟩ := X.2.2.2.2.2.2.2.2.2 L xs hs
  exact va_sld X.1 X.2.1 hX hbl hbA hS hin hd (k l z b D cI cZ p e s m args below meth c Qf X F H locs lsA hL hH hS)
set_option maxHeartbeats 1000000 in
theorem g_slen {E : aE} {pc pc1 : Nat} {ls st : List Value} {h : List aC} {c1 s1 : Nat} {L : Nat} {xs : Nat → Int32} {w : UInt32} (hd : decode (eM E).2.1 pc = .ok (.arraylength, 1)) (hp : pc + 1 = pc1) (hs : E.2.2.2.2.1 = some (L, xs))
    (k : aGo E pc1 ls (.int (Int32.ofNat L) :: st) h c1 s1) : aGo E pc ls (.float w :: st) h c1 s1 := by
  subst hp
  intro l z b D cI cZ p e s m args below meth c Qf X F H locs lsA hL hH hS
  obtain ⟨hX, hbl, hbA⟩ := X.2.2.2.2.2.2.2.2.2 L xs hs
  exact va_slen X.1 X.2.1 hX hbl hbA hS hd (k l z b D cI cZ p e s m args below meth c Qf X F H locs lsA hL hH hS)
set_option maxHeartbeats 1000000 in
theorem g_alen {E : aE} {pc pc1 : Nat} {ls st : List Value} {h : List aC} {c1 s1 : Nat} {q n : Nat} {by1 : Bool} {f : Nat → Int32} (hd : decode (eM E).2.1 pc = .ok (.arraylength, 1)) (hp : pc + 1 = pc1) (hc : h[q]? = some (.inl (by1, n, f)))
    (k : aGo E pc1 ls (.int (Int32.ofNat n) :: st) h c1 s1) : aGo E pc ls (.ref q :: st) h c1 s1 := by
  subst hp
  intro l z b D cI cZ p e s m args below meth c Qf X F H locs lsA hL hH hS
  have hcell := hH.2 q _ hc
  have hP : va_P D vwCl [(z + q, a_e z b cI cZ (.inl (by1, n, f)))] H := fun j x hj => by
    have hz : j < 1 := (List.getElem?_eq_some_iff.mp hj).1
    rw [show j = 0 by omega] at hj
    cases hj
    exact hcell
  cases by1 with
  | false => exact va_alen X.1 X.2.1 X.2.2.2.2.2.2.1 hP 0 0 rfl rfl rfl hd (k l z b D cI cZ p e s m args below meth c Qf X F H locs lsA hL hH hS)
  | true => exact va_alen X.1 X.2.1 X.2.2.2.2.2.2.1 hP 0 1 rfl rfl rfl hd (k l z b D cI cZ p e s m args below meth c Qf X F H locs lsA hL hH hS)
set_option maxHeartbeats 1000000 in
theorem g_iast {E : aE} {pc pc1 : Nat} {ls st : List Value} {h : List aC} {c1 s1 : Nat} {q n : Nat} {f : Nat → Int32} {i x : Int32} (hd : decode (eM E).2.1 pc = .ok (.iastore, 1)) (hp : pc + 1 = pc1) (hc : h[q]? = some (.inl (false, n, f))) (hin : vp_in i n)
    (k : aGo E pc1 ls st (h.set q (.inl (false, n, upd f i.toNatClampNeg x))) c1 s1) : aGo E pc ls (.int x :: .int i :: .ref q :: st) h c1 s1 := by
  subst hp
  intro l z b D cI cZ p e s m args below meth c Qf X F H locs lsA hL hH hS
  have hcell := hH.2 q _ hc
  refine W.iast X.1 X.2.1 hcell ((X.2.2.2.2.2.2.1.2 0 _ rfl).1 n (fun j => .int (f j))) (fun q => by cases q) (by show ¬ (i < 0 ∨ (arrV _ _ _).slots.size ≤ _); rw [arrV_size]; exact hin) rfl rfl hd fun H1 e1 z1 o1 => ?_
  refine k l z b D cI cZ p e s m args below meth c Qf X F H1 _ lsA hL (hH.set hc ?_ z1 o1) (a_S.put hS z1 o1)
  show H1[z + q]? = some (vp_cell _ _)
  rw [e1]
  show some ((vp_cell _ (n, .inl f)).setSlot _ _) = some (vp_cell _ (n, .inl _))
  rw [vp_cell_i, vp_cell_i, arrV_store]
  congr 2
  funext q
  by_cases hq : q = i.toNatClampNeg
  · subst hq
    simp [updV, upd, vp_nar]
    try rfl
  · simp [updV, upd, hq]
set_option maxHeartbeats 1000000 in
theorem g_zast {E : aE} {pc pc1 : Nat} {ls st : List Value} {h : List aC} {c1 s1 : Nat} {q n : Nat} {f : Nat → Int32} {i x : Int32} (hd : decode (eM E).2.1 pc = .ok (.bastore, 1)) (hp : pc + 1 = pc1) (hc : h[q]? = some (.inl (true, n, f))) (hin : vp_in i n)
    (k : aGo E pc1 ls st (h.set q (.inl (true, n, upd f i.toNatClampNeg (vp_nar .boolean x)))) c1 s1) : aGo E pc ls (.int x :: .int i :: .ref q :: st) h c1 s1 := by
  subst hp
  intro l z b D cI cZ p e s m args below meth c Qf X F H locs lsA hL hH hS
  have hcell := hH.2 q _ hc
  refine W.zast X.1 X.2.1 hcell ((X.2.2.2.2.2.2.1.2 1 _ rfl).1 n (fun j => .int (f j))) (fun q => by cases q) (by show ¬ (i < 0 ∨ (arrV _ _ _).slots.size ≤ _); rw [arrV_size]; exact hin) rfl rfl hd fun H1 e1 z1 o1 => ?_
  refine k l z b D cI cZ p e s m args below meth c Qf X F H1 _ lsA hL (hH.set hc ?_ z1 o1) (a_S.put hS z1 o1)
  show H1[z + q]? = some (vp_cell _ _)
  rw [e1]
  show some ((vp_cell _ (n, .inl f)).setSlot _ _) = some (vp_cell _ (n, .inl _))
  rw [vp_cell_i, vp_cell_i, arrV_store]
  congr 2
  funext q
  by_cases hq : q = i.toNatClampNeg
  · subst hq
    simp [updV, upd, vp_nar]
    try rfl
  · simp [updV, upd, hq]
