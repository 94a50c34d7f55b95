/-! One row an instruction, over the abstract layer (written by wip/whole/gen/mk_rows.py). -/
section Rw
variable {μ : aM} {R : Room} {Z : aZ} {pc : Nat} {L : List (Nat × Value)} {S : List Value} {n : Nat} {h : aH} {cells slots : Nat}
theorem T_iconst {a : Int} {v : Int32} (hd : decode μ.2.1 pc = .ok (.iconst a, 1)) (hv : Int32.ofInt a = v) (k : Tri μ R Z (pc + 1) L (.int v :: S) n h cells slots) : Tri μ R Z pc L S n h cells slots :=
  fun p l e s m args below meth c κ D b bs X0 H locs ls C T V => lv_iconst C.1 C.2.1 hd hv (k p l e s m args below meth c κ D b bs X0 H locs ls C T V)
theorem T_bipush {a : Int} {v : Int32} (hd : decode μ.2.1 pc = .ok (.bipush a, 2)) (hv : (Int8.ofInt a).toInt32 = v) (k : Tri μ R Z (pc + 2) L (.int v :: S) n h cells slots) : Tri μ R Z pc L S n h cells slots :=
  fun p l e s m args below meth c κ D b bs X0 H locs ls C T V => lv_bipush C.1 C.2.1 hd hv (k p l e s m args below meth c κ D b bs X0 H locs ls C T V)
theorem T_sipush {a : Int} {v : Int32} (hd : decode μ.2.1 pc = .ok (.sipush a, 3)) (hv : (Int16.ofInt a).toInt32 = v) (k : Tri μ R Z (pc + 3) L (.int v :: S) n h cells slots) : Tri μ R Z pc L S n h cells slots :=
  fun p l e s m args below meth c κ D b bs X0 H locs ls C T V => lv_sipush C.1 C.2.1 hd hv (k p l e s m args below meth c κ D b bs X0 H locs ls C T V)
theorem T_lconst {a : Fin 2} {v : Int64} (hd : decode μ.2.1 pc = .ok (.lconst a, 1)) (hv : Int64.ofNat (a : Nat) = v) (k : Tri μ R Z (pc + 1) L (.long v :: S) n h cells slots) : Tri μ R Z pc L S n h cells slots :=
  fun p l e s m args below meth c κ D b bs X0 H locs ls C T V => lv_lconst C.1 C.2.1 hd hv (k p l e s m args below meth c κ D b bs X0 H locs ls C T V)
theorem T_ldc {i : Nat} {v : Int32} (hd : decode μ.2.1 pc = .ok (.ldc i, 2)) (hv : Cond.constant μ.1.cls i v ∈ Ws) (k : Tri μ R Z (pc + 2) L (.int v :: S) n h cells slots) : Tri μ R Z pc L S n h cells slots :=
  fun p l e s m args below meth c κ D b bs X0 H locs ls C T V => lv_ldc C.1 C.2.1 C.2.2.2.2.2.2.1 (C.2.2.2.2.2.1 _ hv) hd (k p l e s m args below meth c κ D b bs X0 H locs ls C T V)
theorem T_ldc2 {i : Nat} {v : Int64} (hd : decode μ.2.1 pc = .ok (.ldc2_w i, 3)) (hv : Cond.constantLong μ.1.cls i v ∈ Ws) (k : Tri μ R Z (pc + 3) L (.long v :: S) n h cells slots) : Tri μ R Z pc L S n h cells slots :=
  fun p l e s m args below meth c κ D b bs X0 H locs ls C T V => lv_ldc2 C.1 C.2.1 C.2.2.2.2.2.2.1 (C.2.2.2.2.2.1 _ hv) hd (k p l e s m args below meth c κ D b bs X0 H locs ls C T V)
theorem T_iload_n {k : Fin 4} {x : Int32} (hd : decode μ.2.1 pc = .ok (.iload_n k, 1)) (hl : a_lk (k : Nat) L = some (.int x)) (k : Tri μ R Z (pc + 1) L (.int x :: S) n h cells slots) : Tri μ R Z pc L S n h cells slots :=
  fun p l e s m args below meth c κ D b bs X0 H locs ls C T V => lv_iload_n C.1 C.2.1 hd rfl (a_at V hl) (k p l e s m args below meth c κ D b bs X0 H locs ls C T V)
theorem T_iload {i : Nat} {x : Int32} (hd : decode μ.2.1 pc = .ok (.iload i, 2)) (hl : a_lk i L = some (.int x)) (k : Tri μ R Z (pc + 2) L (.int x :: S) n h cells slots) : Tri μ R Z pc L S n h cells slots :=
  fun p l e s m args below meth c κ D b bs X0 H locs ls C T V => lv_iload C.1 C.2.1 hd (a_at V hl) (k p l e s m args below meth c κ D b bs X0 H locs ls C T V)
theorem T_lload_n {k : Fin 4} {x : Int64} (hd : decode μ.2.1 pc = .ok (.lload_n k, 1)) (hl : a_lk (k : Nat) L = some (.long x)) (k : Tri μ R Z (pc + 1) L (.long x :: S) n h cells slots) : Tri μ R Z pc L S n h cells slots :=
  fun p l e s m args below meth c κ D b bs X0 H locs ls C T V => lv_lload_n C.1 C.2.1 hd rfl (a_at V hl) (k p l e s m args below meth c κ D b bs X0 H locs ls C T V)
theorem T_lload {i : Nat} {x : Int64} (hd : decode μ.2.1 pc = .ok (.lload i, 2)) (hl : a_lk i L = some (.long x)) (k : Tri μ R Z (pc + 2) L (.long x :: S) n h cells slots) : Tri μ R Z pc L S n h cells slots :=
  fun p l e s m args below meth c κ D b bs X0 H locs ls C T V => lv_lload C.1 C.2.1 hd (a_at V hl) (k p l e s m args below meth c κ D b bs X0 H locs ls C T V)
theorem T_aload_n {k : Fin 4} {x : Nat} (hd : decode μ.2.1 pc = .ok (.aload_n k, 1)) (hl : a_lk (k : Nat) L = some (.ref x)) (k : Tri μ R Z (pc + 1) L (.ref x :: S) n h cells slots) : Tri μ R Z pc L S n h cells slots :=
  fun p l e s m args below meth c κ D b bs X0 H locs ls C T V => lv_aload_n C.1 C.2.1 hd rfl (a_at V hl) (k p l e s m args below meth c κ D b bs X0 H locs ls C T V)
theorem T_aload {i : Nat} {x : Nat} (hd : decode μ.2.1 pc = .ok (.aload i, 2)) (hl : a_lk i L = some (.ref x)) (k : Tri μ R Z (pc + 2) L (.ref x :: S) n h cells slots) : Tri μ R Z pc L S n h cells slots :=
  fun p l e s m args below meth c κ D b bs X0 H locs ls C T V => lv_aload C.1 C.2.1 hd (a_at V hl) (k p l e s m args below meth c κ D b bs X0 H locs ls C T V)
theorem T_istore_n {k : Fin 4} {i : Nat} {x : Int32} {L' : List (Nat × Value)} (hd : decode μ.2.1 pc = .ok (.istore_n k, 1)) (hi : (k : Nat) = i) (hn : i < μ.2.2.1) (hL : a_s1 i (.int x) L = L') (k : Tri μ R Z (pc + 1) L' S n h cells slots) : Tri μ R Z pc L (.int x :: S) n h cells slots := by
  subst hL
  intro p l e s m args below meth c κ D b bs X0 H locs ls C T V
  exact lv_istore_n C.1 C.2.1 hd hi V hn (a_s1_L b bs i (.int x) L) (fun ls' V' => k p l e s m args below meth c κ D b bs X0 H locs ls' C T V')
theorem T_istore {i : Nat} {x : Int32} {L' : List (Nat × Value)} (hd : decode μ.2.1 pc = .ok (.istore i, 2)) (hn : i < μ.2.2.1) (hL : a_s1 i (.int x) L = L') (k : Tri μ R Z (pc + 2) L' S n h cells slots) : Tri μ R Z pc L (.int x :: S) n h cells slots := by
  subst hL
  intro p l e s m args below meth c κ D b bs X0 H locs ls C T V
  exact lv_istore C.1 C.2.1 hd V hn (a_s1_L b bs i (.int x) L) (fun ls' V' => k p l e s m args below meth c κ D b bs X0 H locs ls' C T V')
theorem T_lstore_n {k : Fin 4} {i : Nat} {x : Int64} {L' : List (Nat × Value)} (hd : decode μ.2.1 pc = .ok (.lstore_n k, 1)) (hi : (k : Nat) = i) (hn : i + 1 < μ.2.2.1) (hL : a_s2 i (.long x) L = L') (k : Tri μ R Z (pc + 1) L' S n h cells slots) : Tri μ R Z pc L (.long x :: S) n h cells slots := by
  subst hL
  intro p l e s m args below meth c κ D b bs X0 H locs ls C T V
  exact lv_lstore_n C.1 C.2.1 hd hi V hn (a_s2_L b bs i (.long x) L) (fun ls' V' => k p l e s m args below meth c κ D b bs X0 H locs ls' C T V')
theorem T_lstore {i : Nat} {x : Int64} {L' : List (Nat × Value)} (hd : decode μ.2.1 pc = .ok (.lstore i, 2)) (hn : i + 1 < μ.2.2.1) (hL : a_s2 i (.long x) L = L') (k : Tri μ R Z (pc + 2) L' S n h cells slots) : Tri μ R Z pc L (.long x :: S) n h cells slots := by
  subst hL
  intro p l e s m args below meth c κ D b bs X0 H locs ls C T V
  exact lv_lstore C.1 C.2.1 hd V hn (a_s2_L b bs i (.long x) L) (fun ls' V' => k p l e s m args below meth c κ D b bs X0 H locs ls' C T V')
theorem T_astore_n {k : Fin 4} {i : Nat} {x : Nat} {L' : List (Nat × Value)} (hd : decode μ.2.1 pc = .ok (.astore_n k, 1)) (hi : (k : Nat) = i) (hn : i < μ.2.2.1) (hL : a_s1 i (.ref x) L = L') (k : Tri μ R Z (pc + 1) L' S n h cells slots) : Tri μ R Z pc L (.ref x :: S) n h cells slots := by
  subst hL
  intro p l e s m args below meth c κ D b bs X0 H locs ls C T V
  exact lv_astore_n C.1 C.2.1 hd hi V hn (a_s1_L b bs i (.ref x) L) (fun ls' V' => k p l e s m args below meth c κ D b bs X0 H locs ls' C T V')
theorem T_astore {i : Nat} {x : Nat} {L' : List (Nat × Value)} (hd : decode μ.2.1 pc = .ok (.astore i, 2)) (hn : i < μ.2.2.1) (hL : a_s1 i (.ref x) L = L') (k : Tri μ R Z (pc + 2) L' S n h cells slots) : Tri μ R Z pc L (.ref x :: S) n h cells slots := by
  subst hL
  intro p l e s m args below meth c κ D b bs X0 H locs ls C T V
  exact lv_astore C.1 C.2.1 hd V hn (a_s1_L b bs i (.ref x) L) (fun ls' V' => k p l e s m args below meth c κ D b bs X0 H locs ls' C T V')
theorem T_iinc {i : Nat} {a : Int} {x v : Int32} {L' : List (Nat × Value)} (hd : decode μ.2.1 pc = .ok (.iinc i a, 3)) (hl : a_lk i L = some (.int x)) (hv : x + Int32.ofInt a = v) (hn : i < μ.2.2.1) (hL : a_s1 i (.int v) L = L') (k : Tri μ R Z (pc + 3) L' S n h cells slots) : Tri μ R Z pc L S n h cells slots := by
  subst hL
  intro p l e s m args below meth c κ D b bs X0 H locs ls C T V
  obtain ⟨q, hq⟩ := List.getElem?_of_mem (a_lk_mem hl)
  refine lv_iinc (k := q) C.1 C.2.1 hd V ?_ hv hn (a_s1_L b bs i (.int v) L) (fun ls' V' => k p l e s m args below meth c κ D b bs X0 H locs ls' C T V')
  simp only [a_L, List.getElem?_map, hq, Option.map_some]
  rfl
theorem T_iadd {x y : Int32} (hd : decode μ.2.1 pc = .ok (.iadd, 1)) (k : Tri μ R Z (pc + 1) L (.int (x + y) :: S) n h cells slots) : Tri μ R Z pc L (.int y :: .int x :: S) n h cells slots :=
  fun p l e s m args below meth c κ D b bs X0 H locs ls C T V => lv_iadd C.1 C.2.1 hd (k p l e s m args below meth c κ D b bs X0 H locs ls C T V)
theorem T_isub {x y : Int32} (hd : decode μ.2.1 pc = .ok (.isub, 1)) (k : Tri μ R Z (pc + 1) L (.int (x - y) :: S) n h cells slots) : Tri μ R Z pc L (.int y :: .int x :: S) n h cells slots :=
  fun p l e s m args below meth c κ D b bs X0 H locs ls C T V => lv_isub C.1 C.2.1 hd (k p l e s m args below meth c κ D b bs X0 H locs ls C T V)
theorem T_imul {x y : Int32} (hd : decode μ.2.1 pc = .ok (.imul, 1)) (k : Tri μ R Z (pc + 1) L (.int (x * y) :: S) n h cells slots) : Tri μ R Z pc L (.int y :: .int x :: S) n h cells slots :=
  fun p l e s m args below meth c κ D b bs X0 H locs ls C T V => lv_imul C.1 C.2.1 hd (k p l e s m args below meth c κ D b bs X0 H locs ls C T V)
theorem T_iand {x y : Int32} (hd : decode μ.2.1 pc = .ok (.iand, 1)) (k : Tri μ R Z (pc + 1) L (.int (x &&& y) :: S) n h cells slots) : Tri μ R Z pc L (.int y :: .int x :: S) n h cells slots :=
  fun p l e s m args below meth c κ D b bs X0 H locs ls C T V => lv_iand C.1 C.2.1 hd (k p l e s m args below meth c κ D b bs X0 H locs ls C T V)
theorem T_ior {x y : Int32} (hd : decode μ.2.1 pc = .ok (.ior, 1)) (k : Tri μ R Z (pc + 1) L (.int (x ||| y) :: S) n h cells slots) : Tri μ R Z pc L (.int y :: .int x :: S) n h cells slots :=
  fun p l e s m args below meth c κ D b bs X0 H locs ls C T V => lv_ior C.1 C.2.1 hd (k p l e s m args below meth c κ D b bs X0 H locs ls C T V)
theorem T_ixor {x y : Int32} (hd : decode μ.2.1 pc = .ok (.ixor, 1)) (k : Tri μ R Z (pc + 1) L (.int (x ^^^ y) :: S) n h cells slots) : Tri μ R Z pc L (.int y :: .int x :: S) n h cells slots :=
  fun p l e s m args below meth c κ D b bs X0 H locs ls C T V => lv_ixor C.1 C.2.1 hd (k p l e s m args below meth c κ D b bs X0 H locs ls C T V)
theorem T_ishl {x y : Int32} (hd : decode μ.2.1 pc = .ok (.ishl, 1)) (k : Tri μ R Z (pc + 1) L (.int (x <<< (y &&& 31)) :: S) n h cells slots) : Tri μ R Z pc L (.int y :: .int x :: S) n h cells slots :=
  fun p l e s m args below meth c κ D b bs X0 H locs ls C T V => lv_ishl C.1 C.2.1 hd (k p l e s m args below meth c κ D b bs X0 H locs ls C T V)
theorem T_ishr {x y : Int32} (hd : decode μ.2.1 pc = .ok (.ishr, 1)) (k : Tri μ R Z (pc + 1) L (.int (x >>> (y &&& 31)) :: S) n h cells slots) : Tri μ R Z pc L (.int y :: .int x :: S) n h cells slots :=
  fun p l e s m args below meth c κ D b bs X0 H locs ls C T V => lv_ishr C.1 C.2.1 hd (k p l e s m args below meth c κ D b bs X0 H locs ls C T V)
theorem T_ladd {x y : Int64} (hd : decode μ.2.1 pc = .ok (.ladd, 1)) (k : Tri μ R Z (pc + 1) L (.long (x + y) :: S) n h cells slots) : Tri μ R Z pc L (.long y :: .long x :: S) n h cells slots :=
  fun p l e s m args below meth c κ D b bs X0 H locs ls C T V => lv_ladd C.1 C.2.1 hd (k p l e s m args below meth c κ D b bs X0 H locs ls C T V)
theorem T_lsub {x y : Int64} (hd : decode μ.2.1 pc = .ok (.lsub, 1)) (k : Tri μ R Z (pc + 1) L (.long (x - y) :: S) n h cells slots) : Tri μ R Z pc L (.long y :: .long x :: S) n h cells slots :=
  fun p l e s m args below meth c κ D b bs X0 H locs ls C T V => lv_lsub C.1 C.2.1 hd (k p l e s m args below meth c κ D b bs X0 H locs ls C T V)
theorem T_lmul {x y : Int64} (hd : decode μ.2.1 pc = .ok (.lmul, 1)) (k : Tri μ R Z (pc + 1) L (.long (x * y) :: S) n h cells slots) : Tri μ R Z pc L (.long y :: .long x :: S) n h cells slots :=
  fun p l e s m args below meth c κ D b bs X0 H locs ls C T V => lv_lmul C.1 C.2.1 hd (k p l e s m args below meth c κ D b bs X0 H locs ls C T V)
theorem T_land {x y : Int64} (hd : decode μ.2.1 pc = .ok (.land, 1)) (k : Tri μ R Z (pc + 1) L (.long (x &&& y) :: S) n h cells slots) : Tri μ R Z pc L (.long y :: .long x :: S) n h cells slots :=
  fun p l e s m args below meth c κ D b bs X0 H locs ls C T V => lv_land C.1 C.2.1 hd (k p l e s m args below meth c κ D b bs X0 H locs ls C T V)
theorem T_lor {x y : Int64} (hd : decode μ.2.1 pc = .ok (.lor, 1)) (k : Tri μ R Z (pc + 1) L (.long (x ||| y) :: S) n h cells slots) : Tri μ R Z pc L (.long y :: .long x :: S) n h cells slots :=
  fun p l e s m args below meth c κ D b bs X0 H locs ls C T V => lv_lor C.1 C.2.1 hd (k p l e s m args below meth c κ D b bs X0 H locs ls C T V)
theorem T_lxor {x y : Int64} (hd : decode μ.2.1 pc = .ok (.lxor, 1)) (k : Tri μ R Z (pc + 1) L (.long (x ^^^ y) :: S) n h cells slots) : Tri μ R Z pc L (.long y :: .long x :: S) n h cells slots :=
  fun p l e s m args below meth c κ D b bs X0 H locs ls C T V => lv_lxor C.1 C.2.1 hd (k p l e s m args below meth c κ D b bs X0 H locs ls C T V)
theorem T_idiv {x y : Int32} (hd : decode μ.2.1 pc = .ok (.idiv, 1)) (hy : ¬ y = 0) (k : Tri μ R Z (pc + 1) L (.int (x / y) :: S) n h cells slots) : Tri μ R Z pc L (.int y :: .int x :: S) n h cells slots :=
  fun p l e s m args below meth c κ D b bs X0 H locs ls C T V => lv_idiv C.1 C.2.1 hd hy (k p l e s m args below meth c κ D b bs X0 H locs ls C T V)
theorem T_irem {x y : Int32} (hd : decode μ.2.1 pc = .ok (.irem, 1)) (hy : ¬ y = 0) (k : Tri μ R Z (pc + 1) L (.int (x - x / y * y) :: S) n h cells slots) : Tri μ R Z pc L (.int y :: .int x :: S) n h cells slots :=
  fun p l e s m args below meth c κ D b bs X0 H locs ls C T V => lv_irem C.1 C.2.1 hd hy (k p l e s m args below meth c κ D b bs X0 H locs ls C T V)
theorem T_ldiv {x y : Int64} (hd : decode μ.2.1 pc = .ok (.ldiv, 1)) (hy : ¬ y = 0) (k : Tri μ R Z (pc + 1) L (.long (x / y) :: S) n h cells slots) : Tri μ R Z pc L (.long y :: .long x :: S) n h cells slots :=
  fun p l e s m args below meth c κ D b bs X0 H locs ls C T V => lv_ldiv C.1 C.2.1 hd hy (k p l e s m args below meth c κ D b bs X0 H locs ls C T V)
theorem T_lrem {x y : Int64} (hd : decode μ.2.1 pc = .ok (.lrem, 1)) (hy : ¬ y = 0) (k : Tri μ R Z (pc + 1) L (.long (x - x / y * y) :: S) n h cells slots) : Tri μ R Z pc L (.long y :: .long x :: S) n h cells slots :=
  fun p l e s m args below meth c κ D b bs X0 H locs ls C T V => lv_lrem C.1 C.2.1 hd hy (k p l e s m args below meth c κ D b bs X0 H locs ls C T V)
theorem T_ineg {x : Int32} (hd : decode μ.2.1 pc = .ok (.ineg, 1)) (k : Tri μ R Z (pc + 1) L (.int (-x) :: S) n h cells slots) : Tri μ R Z pc L (.int x :: S) n h cells slots :=
  fun p l e s m args below meth c κ D b bs X0 H locs ls C T V => lv_ineg C.1 C.2.1 hd (k p l e s m args below meth c κ D b bs X0 H locs ls C T V)
theorem T_lneg {x : Int64} (hd : decode μ.2.1 pc = .ok (.lneg, 1)) (k : Tri μ R Z (pc + 1) L (.long (-x) :: S) n h cells slots) : Tri μ R Z pc L (.long x :: S) n h cells slots :=
  fun p l e s m args below meth c κ D b bs X0 H locs ls C T V => lv_lneg C.1 C.2.1 hd (k p l e s m args below meth c κ D b bs X0 H locs ls C T V)
theorem T_iushr {x y : Int32} (hd : decode μ.2.1 pc = .ok (.iushr, 1)) (k : Tri μ R Z (pc + 1) L (.int (x.toUInt32 >>> (y.toUInt32 &&& Int32.toUInt32 31)).toInt32 :: S) n h cells slots) : Tri μ R Z pc L (.int y :: .int x :: S) n h cells slots :=
  fun p l e s m args below meth c κ D b bs X0 H locs ls C T V => lv_iushr C.1 C.2.1 hd rfl (k p l e s m args below meth c κ D b bs X0 H locs ls C T V)
theorem T_lushr {x : Int64} {y : Int32} (hd : decode μ.2.1 pc = .ok (.lushr, 1)) (k : Tri μ R Z (pc + 1) L (.long (x.toUInt64 >>> (y.toInt64.toUInt64 &&& Int64.toUInt64 63)).toInt64 :: S) n h cells slots) : Tri μ R Z pc L (.int y :: .long x :: S) n h cells slots :=
  fun p l e s m args below meth c κ D b bs X0 H locs ls C T V => lv_lushr C.1 C.2.1 hd rfl (k p l e s m args below meth c κ D b bs X0 H locs ls C T V)
theorem T_lshl {x : Int64} {y : Int32} (hd : decode μ.2.1 pc = .ok (.lshl, 1)) (k : Tri μ R Z (pc + 1) L (.long (x <<< (y.toInt64 &&& 63)) :: S) n h cells slots) : Tri μ R Z pc L (.int y :: .long x :: S) n h cells slots :=
  fun p l e s m args below meth c κ D b bs X0 H locs ls C T V => lv_lshl C.1 C.2.1 hd rfl (k p l e s m args below meth c κ D b bs X0 H locs ls C T V)
theorem T_i2l {x : Int32} (hd : decode μ.2.1 pc = .ok (.i2l, 1)) (k : Tri μ R Z (pc + 1) L (.long x.toInt64 :: S) n h cells slots) : Tri μ R Z pc L (.int x :: S) n h cells slots :=
  fun p l e s m args below meth c κ D b bs X0 H locs ls C T V => lv_i2l C.1 C.2.1 hd rfl (k p l e s m args below meth c κ D b bs X0 H locs ls C T V)
theorem T_l2i {x : Int64} (hd : decode μ.2.1 pc = .ok (.l2i, 1)) (k : Tri μ R Z (pc + 1) L (.int x.toInt32 :: S) n h cells slots) : Tri μ R Z pc L (.long x :: S) n h cells slots :=
  fun p l e s m args below meth c κ D b bs X0 H locs ls C T V => lv_l2i C.1 C.2.1 hd rfl (k p l e s m args below meth c κ D b bs X0 H locs ls C T V)
theorem T_lcmp {x y : Int64} (hd : decode μ.2.1 pc = .ok (.lcmp, 1)) (k : Tri μ R Z (pc + 1) L (.int (lg_cmp x y) :: S) n h cells slots) : Tri μ R Z pc L (.long y :: .long x :: S) n h cells slots :=
  fun p l e s m args below meth c κ D b bs X0 H locs ls C T V => W.lcmp C.1 C.2.1 hd (k p l e s m args below meth c κ D b bs X0 H locs ls C T V)
theorem T_dup {v : Value} (hd : decode μ.2.1 pc = .ok (.dup, 1)) (hv : v.category = 1) (k : Tri μ R Z (pc + 1) L (v :: v :: S) n h cells slots) : Tri μ R Z pc L (v :: S) n h cells slots :=
  fun p l e s m args below meth c κ D b bs X0 H locs ls C T V => lv_dup C.1 C.2.1 hd ((a_cat b bs v).trans hv) (k p l e s m args below meth c κ D b bs X0 H locs ls C T V)
theorem T_pop {v : Value} (hd : decode μ.2.1 pc = .ok (.pop, 1)) (hv : v.category = 1) (k : Tri μ R Z (pc + 1) L S n h cells slots) : Tri μ R Z pc L (v :: S) n h cells slots :=
  fun p l e s m args below meth c κ D b bs X0 H locs ls C T V => lv_pop C.1 C.2.1 hd ((a_cat b bs v).trans hv) (k p l e s m args below meth c κ D b bs X0 H locs ls C T V)
theorem T_dup_x1 {v u : Value} (hd : decode μ.2.1 pc = .ok (.dup_x1, 1)) (hv : v.category = 1) (hu : u.category = 1) (k : Tri μ R Z (pc + 1) L (v :: u :: v :: S) n h cells slots) : Tri μ R Z pc L (v :: u :: S) n h cells slots :=
  fun p l e s m args below meth c κ D b bs X0 H locs ls C T V => lv_dup_x1 C.1 C.2.1 hd ((a_cat b bs v).trans hv) ((a_cat b bs u).trans hu) (k p l e s m args below meth c κ D b bs X0 H locs ls C T V)
theorem T_dup2 {v u : Value} (hd : decode μ.2.1 pc = .ok (.dup2, 1)) (hv : v.category = 1) (hu : u.category = 1) (k : Tri μ R Z (pc + 1) L (v :: u :: v :: u :: S) n h cells slots) : Tri μ R Z pc L (v :: u :: S) n h cells slots :=
  fun p l e s m args below meth c κ D b bs X0 H locs ls C T V => lv_dup2_11 C.1 C.2.1 hd ((a_cat b bs v).trans hv) ((a_cat b bs u).trans hu) (k p l e s m args below meth c κ D b bs X0 H locs ls C T V)
theorem T_if_eq {x : Int32} {off : Int} {tgt : Nat} (hd : decode μ.2.1 pc = .ok (.ifCond .eq off, 3)) (ht : (pc : Int) + off = (tgt : Int)) (kt : x = 0 → Tri μ R Z tgt L S n h cells slots) (kf : ¬ x = 0 → Tri μ R Z (pc + 3) L S n h cells slots) : Tri μ R Z pc L (.int x :: S) n h cells slots :=
  fun p l e s m args below meth c κ D b bs X0 H locs ls C T V => lv_if_eq C.1 C.2.1 hd ht (fun q => kt q p l e s m args below meth c κ D b bs X0 H locs ls C T V) (fun q => kf q p l e s m args below meth c κ D b bs X0 H locs ls C T V)
theorem T_icmp_eq {x y : Int32} {off : Int} {tgt : Nat} (hd : decode μ.2.1 pc = .ok (.if_icmp .eq off, 3)) (ht : (pc : Int) + off = (tgt : Int)) (kt : x = y → Tri μ R Z tgt L S n h cells slots) (kf : ¬ x = y → Tri μ R Z (pc + 3) L S n h cells slots) : Tri μ R Z pc L (.int y :: .int x :: S) n h cells slots :=
  fun p l e s m args below meth c κ D b bs X0 H locs ls C T V => lv_icmp_eq C.1 C.2.1 hd ht (fun q => kt q p l e s m args below meth c κ D b bs X0 H locs ls C T V) (fun q => kf q p l e s m args below meth c κ D b bs X0 H locs ls C T V)
theorem T_if_ne {x : Int32} {off : Int} {tgt : Nat} (hd : decode μ.2.1 pc = .ok (.ifCond .ne off, 3)) (ht : (pc : Int) + off = (tgt : Int)) (kt : ¬ x = 0 → Tri μ R Z tgt L S n h cells slots) (kf : x = 0 → Tri μ R Z (pc + 3) L S n h cells slots) : Tri μ R Z pc L (.int x :: S) n h cells slots :=
  fun p l e s m args below meth c κ D b bs X0 H locs ls C T V => lv_if_ne C.1 C.2.1 hd ht (fun q => kt q p l e s m args below meth c κ D b bs X0 H locs ls C T V) (fun q => kf q p l e s m args below meth c κ D b bs X0 H locs ls C T V)
theorem T_icmp_ne {x y : Int32} {off : Int} {tgt : Nat} (hd : decode μ.2.1 pc = .ok (.if_icmp .ne off, 3)) (ht : (pc : Int) + off = (tgt : Int)) (kt : ¬ x = y → Tri μ R Z tgt L S n h cells slots) (kf : x = y → Tri μ R Z (pc + 3) L S n h cells slots) : Tri μ R Z pc L (.int y :: .int x :: S) n h cells slots :=
  fun p l e s m args below meth c κ D b bs X0 H locs ls C T V => lv_icmp_ne C.1 C.2.1 hd ht (fun q => kt q p l e s m args below meth c κ D b bs X0 H locs ls C T V) (fun q => kf q p l e s m args below meth c κ D b bs X0 H locs ls C T V)
theorem T_if_lt {x : Int32} {off : Int} {tgt : Nat} (hd : decode μ.2.1 pc = .ok (.ifCond .lt off, 3)) (ht : (pc : Int) + off = (tgt : Int)) (kt : x < 0 → Tri μ R Z tgt L S n h cells slots) (kf : ¬ x < 0 → Tri μ R Z (pc + 3) L S n h cells slots) : Tri μ R Z pc L (.int x :: S) n h cells slots :=
  fun p l e s m args below meth c κ D b bs X0 H locs ls C T V => lv_if_lt C.1 C.2.1 hd ht (fun q => kt q p l e s m args below meth c κ D b bs X0 H locs ls C T V) (fun q => kf q p l e s m args below meth c κ D b bs X0 H locs ls C T V)
theorem T_icmp_lt {x y : Int32} {off : Int} {tgt : Nat} (hd : decode μ.2.1 pc = .ok (.if_icmp .lt off, 3)) (ht : (pc : Int) + off = (tgt : Int)) (kt : x < y → Tri μ R Z tgt L S n h cells slots) (kf : ¬ x < y → Tri μ R Z (pc + 3) L S n h cells slots) : Tri μ R Z pc L (.int y :: .int x :: S) n h cells slots :=
  fun p l e s m args below meth c κ D b bs X0 H locs ls C T V => lv_icmp_lt C.1 C.2.1 hd ht (fun q => kt q p l e s m args below meth c κ D b bs X0 H locs ls C T V) (fun q => kf q p l e s m args below meth c κ D b bs X0 H locs ls C T V)
theorem T_if_ge {x : Int32} {off : Int} {tgt : Nat} (hd : decode μ.2.1 pc = .ok (.ifCond .ge off, 3)) (ht : (pc : Int) + off = (tgt : Int)) (kt : 0 ≤ x → Tri μ R Z tgt L S n h cells slots) (kf : ¬ 0 ≤ x → Tri μ R Z (pc + 3) L S n h cells slots) : Tri μ R Z pc L (.int x :: S) n h cells slots :=
  fun p l e s m args below meth c κ D b bs X0 H locs ls C T V => lv_if_ge C.1 C.2.1 hd ht (fun q => kt q p l e s m args below meth c κ D b bs X0 H locs ls C T V) (fun q => kf q p l e s m args below meth c κ D b bs X0 H locs ls C T V)
theorem T_icmp_ge {x y : Int32} {off : Int} {tgt : Nat} (hd : decode μ.2.1 pc = .ok (.if_icmp .ge off, 3)) (ht : (pc : Int) + off = (tgt : Int)) (kt : y ≤ x → Tri μ R Z tgt L S n h cells slots) (kf : ¬ y ≤ x → Tri μ R Z (pc + 3) L S n h cells slots) : Tri μ R Z pc L (.int y :: .int x :: S) n h cells slots :=
  fun p l e s m args below meth c κ D b bs X0 H locs ls C T V => lv_icmp_ge C.1 C.2.1 hd ht (fun q => kt q p l e s m args below meth c κ D b bs X0 H locs ls C T V) (fun q => kf q p l e s m args below meth c κ D b bs X0 H locs ls C T V)
theorem T_if_gt {x : Int32} {off : Int} {tgt : Nat} (hd : decode μ.2.1 pc = .ok (.ifCond .gt off, 3)) (ht : (pc : Int) + off = (tgt : Int)) (kt : 0 < x → Tri μ R Z tgt L S n h cells slots) (kf : ¬ 0 < x → Tri μ R Z (pc + 3) L S n h cells slots) : Tri μ R Z pc L (.int x :: S) n h cells slots :=
  fun p l e s m args below meth c κ D b bs X0 H locs ls C T V => lv_if_gt C.1 C.2.1 hd ht (fun q => kt q p l e s m args below meth c κ D b bs X0 H locs ls C T V) (fun q => kf q p l e s m args below meth c κ D b bs X0 H locs ls C T V)
theorem T_icmp_gt {x y : Int32} {off : Int} {tgt : Nat} (hd : decode μ.2.1 pc = .ok (.if_icmp .gt off, 3)) (ht : (pc : Int) + off = (tgt : Int)) (kt : y < x → Tri μ R Z tgt L S n h cells slots) (kf : ¬ y < x → Tri μ R Z (pc + 3) L S n h cells slots) : Tri μ R Z pc L (.int y :: .int x :: S) n h cells slots :=
  fun p l e s m args below meth c κ D b bs X0 H locs ls C T V => lv_icmp_gt C.1 C.2.1 hd ht (fun q => kt q p l e s m args below meth c κ D b bs X0 H locs ls C T V) (fun q => kf q p l e s m args below meth c κ D b bs X0 H locs ls C T V)
theorem T_if_le {x : Int32} {off : Int} {tgt : Nat} (hd : decode μ.2.1 pc = .ok (.ifCond .le off, 3)) (ht : (pc : Int) + off = (tgt : Int)) (kt : x ≤ 0 → Tri μ R Z tgt L S n h cells slots) (kf : ¬ x ≤ 0 → Tri μ R Z (pc + 3) L S n h cells slots) : Tri μ R Z pc L (.int x :: S) n h cells slots :=
  fun p l e s m args below meth c κ D b bs X0 H locs ls C T V => lv_if_le C.1 C.2.1 hd ht (fun q => kt q p l e s m args below meth c κ D b bs X0 H locs ls C T V) (fun q => kf q p l e s m args below meth c κ D b bs X0 H locs ls C T V)
theorem T_icmp_le {x y : Int32} {off : Int} {tgt : Nat} (hd : decode μ.2.1 pc = .ok (.if_icmp .le off, 3)) (ht : (pc : Int) + off = (tgt : Int)) (kt : x ≤ y → Tri μ R Z tgt L S n h cells slots) (kf : ¬ x ≤ y → Tri μ R Z (pc + 3) L S n h cells slots) : Tri μ R Z pc L (.int y :: .int x :: S) n h cells slots :=
  fun p l e s m args below meth c κ D b bs X0 H locs ls C T V => lv_icmp_le C.1 C.2.1 hd ht (fun q => kt q p l e s m args below meth c κ D b bs X0 H locs ls C T V) (fun q => kf q p l e s m args below meth c κ D b bs X0 H locs ls C T V)
theorem T_goto {off : Int} {tgt : Nat} (hd : decode μ.2.1 pc = .ok (.goto off, 3)) (ht : (pc : Int) + off = (tgt : Int)) (k : Tri μ R Z tgt L S n h cells slots) : Tri μ R Z pc L S n h cells slots :=
  fun p l e s m args below meth c κ D b bs X0 H locs ls C T V => lv_goto C.1 C.2.1 hd ht (k p l e s m args below meth c κ D b bs X0 H locs ls C T V)
theorem T_tableOut {dflt lo hi : Int} {offs : Array Int} {len : Nat} {x : Int32} {tgt : Nat} (hd : decode μ.2.1 pc = .ok (.tableswitch dflt lo hi offs, len)) (hx : x.toInt < lo ∨ hi < x.toInt) (ht : (pc : Int) + dflt = (tgt : Int)) (k : Tri μ R Z tgt L S n h cells slots) : Tri μ R Z pc L (.int x :: S) n h cells slots :=
  fun p l e s m args below meth c κ D b bs X0 H locs ls C T V => lv_tableOut C.1 C.2.1 hd hx ht (k p l e s m args below meth c κ D b bs X0 H locs ls C T V)
theorem T_tableIn {dflt lo hi : Int} {offs : Array Int} {len : Nat} {x : Int32} {off : Int} {tgt : Nat} (hd : decode μ.2.1 pc = .ok (.tableswitch dflt lo hi offs, len)) (h1 : ¬ x.toInt < lo) (h2 : ¬ hi < x.toInt) (ho : offs[(x.toInt - lo).toNat]? = some off) (ht : (pc : Int) + off = (tgt : Int)) (k : Tri μ R Z tgt L S n h cells slots) : Tri μ R Z pc L (.int x :: S) n h cells slots :=
  fun p l e s m args below meth c κ D b bs X0 H locs ls C T V => lv_tableIn C.1 C.2.1 hd h1 h2 ho ht (k p l e s m args below meth c κ D b bs X0 H locs ls C T V)
theorem T_lookup {dflt : Int} {ps : Array (Int × Int)} {len : Nat} {x : Int32} {off : Int} {tgt : Nat} (hd : decode μ.2.1 pc = .ok (.lookupswitch dflt ps, len)) (hp : (ps.toList.zip (ps.toList.drop 1)).all (fun (a, next) => a.1 < next.1) = true) (ho : Op.lookupswitch.offset ps.toList dflt x.toInt = off) (ht : (pc : Int) + off = (tgt : Int)) (k : Tri μ R Z tgt L S n h cells slots) : Tri μ R Z pc L (.int x :: S) n h cells slots :=
  fun p l e s m args below meth c κ D b bs X0 H locs ls C T V => lv_lookup C.1 C.2.1 hd hp ho ht (k p l e s m args below meth c κ D b bs X0 H locs ls C T V)
theorem T_eq {S' : List Value} {L' : List (Nat × Value)} {pc' : Nat} (hp : pc = pc') (hL : L = L') (hS : S = S') (k : Tri μ R Z pc' L' S' n h cells slots) : Tri μ R Z pc L S n h cells slots := by
  subst hp; subst hL; subst hS; exact k
end Rw
