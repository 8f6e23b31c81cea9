section XWALK
variable {p : Program} {l : Launch} {e : Env} {R : Room} {s : State} {m : MethodId} {args : Array Value} {below : List Frame} {meth : Method} {c : Code} {cells slots : Nat} {Q : State → Prop}
variable {cc : ByteArray} {nL pc pc' : Nat} {own : String} {Ts : List Cond} {D : va_G} {cl : List vw_C} {tys : List (ClassId × FieldType)} {A : Nat → Prop} {H0 : Heap} {ws : va_W} {lv lv' : List (Nat × Value)} {rest st : List Value}
/-- what a walk has of its method -/
def xw_C (p : Program) (s : State) (m : MethodId) (args : Array Value) (c : Code) (cc : ByteArray) (nL : Nat) (own : String) (Ts : List Cond) (D : va_G) (cl : List vw_C) (tys : List (ClassId × FieldType)) (A : Nat → Prop) (H0 : Heap) : Prop :=
  p.tables.exec = Jvm.exec ∧ c.code = cc ∧ c.maxLocals = nL ∧ s.vm.findClass own = some m.cls ∧ (∀ w ∈ Ts, w.before args s = true) ∧ va_K D cl tys s ∧ ∀ q, H0.size ≤ q → A q
/-- the walk stands at pc, with these locals and this stack, in any heap that holds the world ws -/
def XW (p : Program) (l : Launch) (e : Env) (R : Room) (s : State) (m : MethodId) (args : Array Value) (below : List Frame) (meth : Method) (c : Code) (D : va_G) (cl : List vw_C) (A : Nat → Prop) (H0 : Heap) (nL : Nat) (ws : va_W) (cells slots : Nat) (Q : State → Prop) (pc : Nat) (lv : List (Nat × Value)) (st : List Value) : Prop :=
  ∀ (H : Heap) (locs : List Loc) (ls : Array Slot), va_P D cl ws H → va_D A ws → va_S A H0 H locs → lv_has ls nL lv → W p l e R s m args below meth c H locs cells slots Q (F0 m pc ls st)
theorem xw_iconst (C : xw_C p s m args c cc nL own Ts D cl tys A H0) {n : Int} {v : Int32} (hdg : decode cc pc = .ok (.iconst n, 1)) (hv : Int32.ofInt n = v) (hp : pc + 1 = pc')
    (k : XW p l e R s m args below meth c D cl A H0 nL ws cells slots Q pc' lv (.int v :: rest)) : XW p l e R s m args below meth c D cl A H0 nL ws cells slots Q pc lv rest := by
  subst hp
  exact fun H locs ls hP hD hS hl => lv_iconst C.1 C.2.1 hdg hv (k H locs ls hP hD hS hl)
theorem xw_bipush (C : xw_C p s m args c cc nL own Ts D cl tys A H0) {n : Int} {v : Int32} (hdg : decode cc pc = .ok (.bipush n, 2)) (hv : (Int8.ofInt n).toInt32 = v) (hp : pc + 2 = pc')
    (k : XW p l e R s m args below meth c D cl A H0 nL ws cells slots Q pc' lv (.int v :: rest)) : XW p l e R s m args below meth c D cl A H0 nL ws cells slots Q pc lv rest := by
  subst hp
  exact fun H locs ls hP hD hS hl => lv_bipush C.1 C.2.1 hdg hv (k H locs ls hP hD hS hl)
theorem xw_sipush (C : xw_C p s m args c cc nL own Ts D cl tys A H0) {n : Int} {v : Int32} (hdg : decode cc pc = .ok (.sipush n, 3)) (hv : (Int16.ofInt n).toInt32 = v) (hp : pc + 3 = pc')
    (k : XW p l e R s m args below meth c D cl A H0 nL ws cells slots Q pc' lv (.int v :: rest)) : XW p l e R s m args below meth c D cl A H0 nL ws cells slots Q pc lv rest := by
  subst hp
  exact fun H locs ls hP hD hS hl => lv_sipush C.1 C.2.1 hdg hv (k H locs ls hP hD hS hl)
theorem xw_lconst (C : xw_C p s m args c cc nL own Ts D cl tys A H0) {n : Fin 2} {v : Int64} (hdg : decode cc pc = .ok (.lconst n, 1)) (hv : Int64.ofNat (n : Nat) = v) (hp : pc + 1 = pc')
    (k : XW p l e R s m args below meth c D cl A H0 nL ws cells slots Q pc' lv (.long v :: rest)) : XW p l e R s m args below meth c D cl A H0 nL ws cells slots Q pc lv rest := by
  subst hp
  exact fun H locs ls hP hD hS hl => lv_lconst C.1 C.2.1 hdg hv (k H locs ls hP hD hS hl)
theorem xw_iload_n (C : xw_C p s m args c cc nL own Ts D cl tys A H0) (j : Nat) {k : Fin 4} {i : Nat} {x : Int32} (hdg : decode cc pc = .ok (.iload_n k, 1)) (hi : (k : Nat) = i) (hj : lv[j]? = some (i, .int x)) (hp : pc + 1 = pc')
    (kk : XW p l e R s m args below meth c D cl A H0 nL ws cells slots Q pc' lv (.int x :: rest)) : XW p l e R s m args below meth c D cl A H0 nL ws cells slots Q pc lv rest := by
  subst hp
  exact fun H locs ls hP hD hS hl => lv_iload_n C.1 C.2.1 hdg hi (lv_at hl j hj) (kk H locs ls hP hD hS hl)
theorem xw_iload (C : xw_C p s m args c cc nL own Ts D cl tys A H0) (j : Nat) {i : Nat} {x : Int32} (hdg : decode cc pc = .ok (.iload i, 2)) (hj : lv[j]? = some (i, .int x)) (hp : pc + 2 = pc')
    (kk : XW p l e R s m args below meth c D cl A H0 nL ws cells slots Q pc' lv (.int x :: rest)) : XW p l e R s m args below meth c D cl A H0 nL ws cells slots Q pc lv rest := by
  subst hp
  exact fun H locs ls hP hD hS hl => lv_iload C.1 C.2.1 hdg (lv_at hl j hj) (kk H locs ls hP hD hS hl)
theorem xw_aload_n (C : xw_C p s m args c cc nL own Ts D cl tys A H0) (j : Nat) {k : Fin 4} {i x : Nat} (hdg : decode cc pc = .ok (.aload_n k, 1)) (hi : (k : Nat) = i) (hj : lv[j]? = some (i, .ref x)) (hp : pc + 1 = pc')
    (kk : XW p l e R s m args below meth c D cl A H0 nL ws cells slots Q pc' lv (.ref x :: rest)) : XW p l e R s m args below meth c D cl A H0 nL ws cells slots Q pc lv rest := by
  subst hp
  exact fun H locs ls hP hD hS hl => lv_aload_n C.1 C.2.1 hdg hi (lv_at hl j hj) (kk H locs ls hP hD hS hl)
theorem xw_aload (C : xw_C p s m args c cc nL own Ts D cl tys A H0) (j : Nat) {i x : Nat} (hdg : decode cc pc = .ok (.aload i, 2)) (hj : lv[j]? = some (i, .ref x)) (hp : pc + 2 = pc')
    (kk : XW p l e R s m args below meth c D cl A H0 nL ws cells slots Q pc' lv (.ref x :: rest)) : XW p l e R s m args below meth c D cl A H0 nL ws cells slots Q pc lv rest := by
  subst hp
  exact fun H locs ls hP hD hS hl => lv_aload C.1 C.2.1 hdg (lv_at hl j hj) (kk H locs ls hP hD hS hl)
theorem xw_istore_n (C : xw_C p s m args c cc nL own Ts D cl tys A H0) {k : Fin 4} {i : Nat} {x : Int32} (hdg : decode cc pc = .ok (.istore_n k, 1)) (hi : (k : Nat) = i) (hn : i < nL) (hl' : (i, Value.int x) :: lv.filter (fun q => !(q.1 == i) && !(q.1 + 1 == i && q.2.category == 2)) = lv') (hp : pc + 1 = pc')
    (kk : XW p l e R s m args below meth c D cl A H0 nL ws cells slots Q pc' lv' rest) : XW p l e R s m args below meth c D cl A H0 nL ws cells slots Q pc lv (.int x :: rest) := by
  subst hp
  exact fun H locs ls hP hD hS hl => lv_istore_n C.1 C.2.1 hdg hi hl hn hl' (fun ls' h => kk H locs ls' hP hD hS h)
theorem xw_istore (C : xw_C p s m args c cc nL own Ts D cl tys A H0) {i : Nat} {x : Int32} (hdg : decode cc pc = .ok (.istore i, 2)) (hn : i < nL) (hl' : (i, Value.int x) :: lv.filter (fun q => !(q.1 == i) && !(q.1 + 1 == i && q.2.category == 2)) = lv') (hp : pc + 2 = pc')
    (kk : XW p l e R s m args below meth c D cl A H0 nL ws cells slots Q pc' lv' rest) : XW p l e R s m args below meth c D cl A H0 nL ws cells slots Q pc lv (.int x :: rest) := by
  subst hp
  exact fun H locs ls hP hD hS hl => lv_istore C.1 C.2.1 hdg hl hn hl' (fun ls' h => kk H locs ls' hP hD hS h)
theorem xw_astore_n (C : xw_C p s m args c cc nL own Ts D cl tys A H0) {k : Fin 4} {i x : Nat} (hdg : decode cc pc = .ok (.astore_n k, 1)) (hi : (k : Nat) = i) (hn : i < nL) (hl' : (i, Value.ref x) :: lv.filter (fun q => !(q.1 == i) && !(q.1 + 1 == i && q.2.category == 2)) = lv') (hp : pc + 1 = pc')
    (kk : XW p l e R s m args below meth c D cl A H0 nL ws cells slots Q pc' lv' rest) : XW p l e R s m args below meth c D cl A H0 nL ws cells slots Q pc lv (.ref x :: rest) := by
  subst hp
  exact fun H locs ls hP hD hS hl => lv_astore_n C.1 C.2.1 hdg hi hl hn hl' (fun ls' h => kk H locs ls' hP hD hS h)
theorem xw_astore (C : xw_C p s m args c cc nL own Ts D cl tys A H0) {i x : Nat} (hdg : decode cc pc = .ok (.astore i, 2)) (hn : i < nL) (hl' : (i, Value.ref x) :: lv.filter (fun q => !(q.1 == i) && !(q.1 + 1 == i && q.2.category == 2)) = lv') (hp : pc + 2 = pc')
    (kk : XW p l e R s m args below meth c D cl A H0 nL ws cells slots Q pc' lv' rest) : XW p l e R s m args below meth c D cl A H0 nL ws cells slots Q pc lv (.ref x :: rest) := by
  subst hp
  exact fun H locs ls hP hD hS hl => lv_astore C.1 C.2.1 hdg hl hn hl' (fun ls' h => kk H locs ls' hP hD hS h)
theorem xw_iinc (C : xw_C p s m args c cc nL own Ts D cl tys A H0) (j : Nat) {i : Nat} {n : Int} {x v : Int32} (hdg : decode cc pc = .ok (.iinc i n, 3)) (hj : lv[j]? = some (i, .int x)) (hv : x + Int32.ofInt n = v) (hn : i < nL) (hl' : (i, Value.int v) :: lv.filter (fun q => !(q.1 == i) && !(q.1 + 1 == i && q.2.category == 2)) = lv') (hp : pc + 3 = pc')
    (kk : XW p l e R s m args below meth c D cl A H0 nL ws cells slots Q pc' lv' rest) : XW p l e R s m args below meth c D cl A H0 nL ws cells slots Q pc lv rest := by
  subst hp
  exact fun H locs ls hP hD hS hl => lv_iinc C.1 C.2.1 hdg hl hj hv hn hl' (fun ls' h => kk H locs ls' hP hD hS h)
/-- other locals that follow from these -/
theorem xw_lv (js : List Nat) (hl' : lv_pick lv js = lv') (kk : XW p l e R s m args below meth c D cl A H0 nL ws cells slots Q pc lv' st) : XW p l e R s m args below meth c D cl A H0 nL ws cells slots Q pc lv st :=
  fun H locs ls hP hD hS hl => kk H locs ls hP hD hS (lv_sub hl js hl')
/-- another name of the top number -/
theorem xw_topi {x y : Int32} (h : x = y) (kk : XW p l e R s m args below meth c D cl A H0 nL ws cells slots Q pc lv (.int y :: rest)) : XW p l e R s m args below meth c D cl A H0 nL ws cells slots Q pc lv (.int x :: rest) := by
  subst h; exact kk
theorem xw_topl {x y : Int64} (h : x = y) (kk : XW p l e R s m args below meth c D cl A H0 nL ws cells slots Q pc lv (.long y :: rest)) : XW p l e R s m args below meth c D cl A H0 nL ws cells slots Q pc lv (.long x :: rest) := by
  subst h; exact kk
theorem xw_ws {ws' : va_W} (h : ws = ws') (kk : XW p l e R s m args below meth c D cl A H0 nL ws' cells slots Q pc lv st) : XW p l e R s m args below meth c D cl A H0 nL ws cells slots Q pc lv st := by
  subst h; exact kk
theorem xw_widen {k n : Nat} (h1 : cells ≤ k) (h2 : slots ≤ n) (kk : XW p l e R s m args below meth c D cl A H0 nL ws k n Q pc lv st) : XW p l e R s m args below meth c D cl A H0 nL ws cells slots Q pc lv st :=
  fun H locs ls hP hD hS hl => W.widen h1 h2 (kk H locs ls hP hD hS hl)
theorem xw_iadd (C : xw_C p s m args c cc nL own Ts D cl tys A H0) {x y : Int32} (hdg : decode cc pc = .ok (.iadd, 1))  (hp : pc + 1 = pc')
    (k : XW p l e R s m args below meth c D cl A H0 nL ws cells slots Q pc' lv (.int (x + y) :: rest)) : XW p l e R s m args below meth c D cl A H0 nL ws cells slots Q pc lv (.int y :: .int x :: rest) := by
  subst hp
  exact fun H locs ls hP hD hS hl => lv_iadd C.1 C.2.1 hdg  (k H locs ls hP hD hS hl)
theorem xw_isub (C : xw_C p s m args c cc nL own Ts D cl tys A H0) {x y : Int32} (hdg : decode cc pc = .ok (.isub, 1))  (hp : pc + 1 = pc')
    (k : XW p l e R s m args below meth c D cl A H0 nL ws cells slots Q pc' lv (.int (x - y) :: rest)) : XW p l e R s m args below meth c D cl A H0 nL ws cells slots Q pc lv (.int y :: .int x :: rest) := by
  subst hp
  exact fun H locs ls hP hD hS hl => lv_isub C.1 C.2.1 hdg  (k H locs ls hP hD hS hl)
theorem xw_imul (C : xw_C p s m args c cc nL own Ts D cl tys A H0) {x y : Int32} (hdg : decode cc pc = .ok (.imul, 1))  (hp : pc + 1 = pc')
    (k : XW p l e R s m args below meth c D cl A H0 nL ws cells slots Q pc' lv (.int (x * y) :: rest)) : XW p l e R s m args below meth c D cl A H0 nL ws cells slots Q pc lv (.int y :: .int x :: rest) := by
  subst hp
  exact fun H locs ls hP hD hS hl => lv_imul C.1 C.2.1 hdg  (k H locs ls hP hD hS hl)
theorem xw_iand (C : xw_C p s m args c cc nL own Ts D cl tys A H0) {x y : Int32} (hdg : decode cc pc = .ok (.iand, 1))  (hp : pc + 1 = pc')
    (k : XW p l e R s m args below meth c D cl A H0 nL ws cells slots Q pc' lv (.int (x &&& y) :: rest)) : XW p l e R s m args below meth c D cl A H0 nL ws cells slots Q pc lv (.int y :: .int x :: rest) := by
  subst hp
  exact fun H locs ls hP hD hS hl => lv_iand C.1 C.2.1 hdg  (k H locs ls hP hD hS hl)
theorem xw_ixor (C : xw_C p s m args c cc nL own Ts D cl tys A H0) {x y : Int32} (hdg : decode cc pc = .ok (.ixor, 1))  (hp : pc + 1 = pc')
    (k : XW p l e R s m args below meth c D cl A H0 nL ws cells slots Q pc' lv (.int (x ^^^ y) :: rest)) : XW p l e R s m args below meth c D cl A H0 nL ws cells slots Q pc lv (.int y :: .int x :: rest) := by
  subst hp
  exact fun H locs ls hP hD hS hl => lv_ixor C.1 C.2.1 hdg  (k H locs ls hP hD hS hl)
theorem xw_ishr (C : xw_C p s m args c cc nL own Ts D cl tys A H0) {x y : Int32} (hdg : decode cc pc = .ok (.ishr, 1))  (hp : pc + 1 = pc')
    (k : XW p l e R s m args below meth c D cl A H0 nL ws cells slots Q pc' lv (.int (x >>> (y &&& 31)) :: rest)) : XW p l e R s m args below meth c D cl A H0 nL ws cells slots Q pc lv (.int y :: .int x :: rest) := by
  subst hp
  exact fun H locs ls hP hD hS hl => lv_ishr C.1 C.2.1 hdg  (k H locs ls hP hD hS hl)
theorem xw_idiv (C : xw_C p s m args c cc nL own Ts D cl tys A H0) {x y : Int32} (hdg : decode cc pc = .ok (.idiv, 1)) (hne : ¬ y = 0) (hp : pc + 1 = pc')
    (k : XW p l e R s m args below meth c D cl A H0 nL ws cells slots Q pc' lv (.int (x / y) :: rest)) : XW p l e R s m args below meth c D cl A H0 nL ws cells slots Q pc lv (.int y :: .int x :: rest) := by
  subst hp
  exact fun H locs ls hP hD hS hl => lv_idiv C.1 C.2.1 hdg hne (k H locs ls hP hD hS hl)
theorem xw_irem (C : xw_C p s m args c cc nL own Ts D cl tys A H0) {x y : Int32} (hdg : decode cc pc = .ok (.irem, 1)) (hne : ¬ y = 0) (hp : pc + 1 = pc')
    (k : XW p l e R s m args below meth c D cl A H0 nL ws cells slots Q pc' lv (.int (x - x / y * y) :: rest)) : XW p l e R s m args below meth c D cl A H0 nL ws cells slots Q pc lv (.int y :: .int x :: rest) := by
  subst hp
  exact fun H locs ls hP hD hS hl => lv_irem C.1 C.2.1 hdg hne (k H locs ls hP hD hS hl)
theorem xw_i2l (C : xw_C p s m args c cc nL own Ts D cl tys A H0) {x : Int32} {v : Int64} (hdg : decode cc pc = .ok (.i2l, 1)) (hv : x.toInt64 = v) (hp : pc + 1 = pc')
    (k : XW p l e R s m args below meth c D cl A H0 nL ws cells slots Q pc' lv (.long v :: rest)) : XW p l e R s m args below meth c D cl A H0 nL ws cells slots Q pc lv (.int x :: rest) := by
  subst hp
  exact fun H locs ls hP hD hS hl => lv_i2l C.1 C.2.1 hdg hv (k H locs ls hP hD hS hl)
theorem xw_dup (C : xw_C p s m args c cc nL own Ts D cl tys A H0) {va : Value} (hdg : decode cc pc = .ok (.dup, 1)) (hva : va.category = 1) (hp : pc + 1 = pc')
    (k : XW p l e R s m args below meth c D cl A H0 nL ws cells slots Q pc' lv (va :: va :: rest)) : XW p l e R s m args below meth c D cl A H0 nL ws cells slots Q pc lv (va :: rest) := by
  subst hp
  exact fun H locs ls hP hD hS hl => lv_dup C.1 C.2.1 hdg hva (k H locs ls hP hD hS hl)
theorem xw_pop (C : xw_C p s m args c cc nL own Ts D cl tys A H0) {va : Value} (hdg : decode cc pc = .ok (.pop, 1)) (hva : va.category = 1) (hp : pc + 1 = pc')
    (k : XW p l e R s m args below meth c D cl A H0 nL ws cells slots Q pc' lv (rest)) : XW p l e R s m args below meth c D cl A H0 nL ws cells slots Q pc lv (va :: rest) := by
  subst hp
  exact fun H locs ls hP hD hS hl => lv_pop C.1 C.2.1 hdg hva (k H locs ls hP hD hS hl)
theorem xw_dup_x1 (C : xw_C p s m args c cc nL own Ts D cl tys A H0) {va vb : Value} (hdg : decode cc pc = .ok (.dup_x1, 1)) (hva : va.category = 1) (hvb : vb.category = 1) (hp : pc + 1 = pc')
    (k : XW p l e R s m args below meth c D cl A H0 nL ws cells slots Q pc' lv (va :: vb :: va :: rest)) : XW p l e R s m args below meth c D cl A H0 nL ws cells slots Q pc lv (va :: vb :: rest) := by
  subst hp
  exact fun H locs ls hP hD hS hl => lv_dup_x1 C.1 C.2.1 hdg hva hvb (k H locs ls hP hD hS hl)
theorem xw_dup_x2 (C : xw_C p s m args c cc nL own Ts D cl tys A H0) {va vb vd : Value} (hdg : decode cc pc = .ok (.dup_x2, 1)) (hva : va.category = 1) (hvb : vb.category = 1) (hvd : vd.category = 1) (hp : pc + 1 = pc')
    (k : XW p l e R s m args below meth c D cl A H0 nL ws cells slots Q pc' lv (va :: vb :: vd :: va :: rest)) : XW p l e R s m args below meth c D cl A H0 nL ws cells slots Q pc lv (va :: vb :: vd :: rest) := by
  subst hp
  exact fun H locs ls hP hD hS hl => lv_dup_x2 C.1 C.2.1 hdg hva hvb hvd (k H locs ls hP hD hS hl)
theorem xw_dup2_11 (C : xw_C p s m args c cc nL own Ts D cl tys A H0) {va vb : Value} (hdg : decode cc pc = .ok (.dup2, 1)) (hva : va.category = 1) (hvb : vb.category = 1) (hp : pc + 1 = pc')
    (k : XW p l e R s m args below meth c D cl A H0 nL ws cells slots Q pc' lv (va :: vb :: va :: vb :: rest)) : XW p l e R s m args below meth c D cl A H0 nL ws cells slots Q pc lv (va :: vb :: rest) := by
  subst hp
  exact fun H locs ls hP hD hS hl => lv_dup2_11 C.1 C.2.1 hdg hva hvb (k H locs ls hP hD hS hl)
theorem xw_if_eq (C : xw_C p s m args c cc nL own Ts D cl tys A H0) {x : Int32} {off : Int} {tgt : Nat} (hdg : decode cc pc = .ok (.ifCond .eq off, 3)) (ht : (pc : Int) + off = (tgt : Int)) (hp : pc + 3 = pc')
    (kt : x = 0 → XW p l e R s m args below meth c D cl A H0 nL ws cells slots Q tgt lv rest) (kf : ¬ x = 0 → XW p l e R s m args below meth c D cl A H0 nL ws cells slots Q pc' lv rest) : XW p l e R s m args below meth c D cl A H0 nL ws cells slots Q pc lv (.int x :: rest) := by
  subst hp
  exact fun H locs ls hP hD hS hl => lv_if_eq C.1 C.2.1 hdg ht (fun h => kt h H locs ls hP hD hS hl) (fun h => kf h H locs ls hP hD hS hl)
theorem xw_if_ne (C : xw_C p s m args c cc nL own Ts D cl tys A H0) {x : Int32} {off : Int} {tgt : Nat} (hdg : decode cc pc = .ok (.ifCond .ne off, 3)) (ht : (pc : Int) + off = (tgt : Int)) (hp : pc + 3 = pc')
    (kt : ¬ x = 0 → XW p l e R s m args below meth c D cl A H0 nL ws cells slots Q tgt lv rest) (kf : x = 0 → XW p l e R s m args below meth c D cl A H0 nL ws cells slots Q pc' lv rest) : XW p l e R s m args below meth c D cl A H0 nL ws cells slots Q pc lv (.int x :: rest) := by
  subst hp
  exact fun H locs ls hP hD hS hl => lv_if_ne C.1 C.2.1 hdg ht (fun h => kt h H locs ls hP hD hS hl) (fun h => kf h H locs ls hP hD hS hl)
theorem xw_if_lt (C : xw_C p s m args c cc nL own Ts D cl tys A H0) {x : Int32} {off : Int} {tgt : Nat} (hdg : decode cc pc = .ok (.ifCond .lt off, 3)) (ht : (pc : Int) + off = (tgt : Int)) (hp : pc + 3 = pc')
    (kt : x < 0 → XW p l e R s m args below meth c D cl A H0 nL ws cells slots Q tgt lv rest) (kf : ¬ x < 0 → XW p l e R s m args below meth c D cl A H0 nL ws cells slots Q pc' lv rest) : XW p l e R s m args below meth c D cl A H0 nL ws cells slots Q pc lv (.int x :: rest) := by
  subst hp
  exact fun H locs ls hP hD hS hl => lv_if_lt C.1 C.2.1 hdg ht (fun h => kt h H locs ls hP hD hS hl) (fun h => kf h H locs ls hP hD hS hl)
theorem xw_if_ge (C : xw_C p s m args c cc nL own Ts D cl tys A H0) {x : Int32} {off : Int} {tgt : Nat} (hdg : decode cc pc = .ok (.ifCond .ge off, 3)) (ht : (pc : Int) + off = (tgt : Int)) (hp : pc + 3 = pc')
    (kt : 0 ≤ x → XW p l e R s m args below meth c D cl A H0 nL ws cells slots Q tgt lv rest) (kf : ¬ 0 ≤ x → XW p l e R s m args below meth c D cl A H0 nL ws cells slots Q pc' lv rest) : XW p l e R s m args below meth c D cl A H0 nL ws cells slots Q pc lv (.int x :: rest) := by
  subst hp
  exact fun H locs ls hP hD hS hl => lv_if_ge C.1 C.2.1 hdg ht (fun h => kt h H locs ls hP hD hS hl) (fun h => kf h H locs ls hP hD hS hl)
theorem xw_if_gt (C : xw_C p s m args c cc nL own Ts D cl tys A H0) {x : Int32} {off : Int} {tgt : Nat} (hdg : decode cc pc = .ok (.ifCond .gt off, 3)) (ht : (pc : Int) + off = (tgt : Int)) (hp : pc + 3 = pc')
    (kt : 0 < x → XW p l e R s m args below meth c D cl A H0 nL ws cells slots Q tgt lv rest) (kf : ¬ 0 < x → XW p l e R s m args below meth c D cl A H0 nL ws cells slots Q pc' lv rest) : XW p l e R s m args below meth c D cl A H0 nL ws cells slots Q pc lv (.int x :: rest) := by
  subst hp
  exact fun H locs ls hP hD hS hl => lv_if_gt C.1 C.2.1 hdg ht (fun h => kt h H locs ls hP hD hS hl) (fun h => kf h H locs ls hP hD hS hl)
theorem xw_if_le (C : xw_C p s m args c cc nL own Ts D cl tys A H0) {x : Int32} {off : Int} {tgt : Nat} (hdg : decode cc pc = .ok (.ifCond .le off, 3)) (ht : (pc : Int) + off = (tgt : Int)) (hp : pc + 3 = pc')
    (kt : x ≤ 0 → XW p l e R s m args below meth c D cl A H0 nL ws cells slots Q tgt lv rest) (kf : ¬ x ≤ 0 → XW p l e R s m args below meth c D cl A H0 nL ws cells slots Q pc' lv rest) : XW p l e R s m args below meth c D cl A H0 nL ws cells slots Q pc lv (.int x :: rest) := by
  subst hp
  exact fun H locs ls hP hD hS hl => lv_if_le C.1 C.2.1 hdg ht (fun h => kt h H locs ls hP hD hS hl) (fun h => kf h H locs ls hP hD hS hl)
theorem xw_icmp_eq (C : xw_C p s m args c cc nL own Ts D cl tys A H0) {x y : Int32} {off : Int} {tgt : Nat} (hdg : decode cc pc = .ok (.if_icmp .eq off, 3)) (ht : (pc : Int) + off = (tgt : Int)) (hp : pc + 3 = pc')
    (kt : x = y → XW p l e R s m args below meth c D cl A H0 nL ws cells slots Q tgt lv rest) (kf : ¬ x = y → XW p l e R s m args below meth c D cl A H0 nL ws cells slots Q pc' lv rest) : XW p l e R s m args below meth c D cl A H0 nL ws cells slots Q pc lv (.int y :: .int x :: rest) := by
  subst hp
  exact fun H locs ls hP hD hS hl => lv_icmp_eq C.1 C.2.1 hdg ht (fun h => kt h H locs ls hP hD hS hl) (fun h => kf h H locs ls hP hD hS hl)
theorem xw_icmp_ne (C : xw_C p s m args c cc nL own Ts D cl tys A H0) {x y : Int32} {off : Int} {tgt : Nat} (hdg : decode cc pc = .ok (.if_icmp .ne off, 3)) (ht : (pc : Int) + off = (tgt : Int)) (hp : pc + 3 = pc')
    (kt : ¬ x = y → XW p l e R s m args below meth c D cl A H0 nL ws cells slots Q tgt lv rest) (kf : x = y → XW p l e R s m args below meth c D cl A H0 nL ws cells slots Q pc' lv rest) : XW p l e R s m args below meth c D cl A H0 nL ws cells slots Q pc lv (.int y :: .int x :: rest) := by
  subst hp
  exact fun H locs ls hP hD hS hl => lv_icmp_ne C.1 C.2.1 hdg ht (fun h => kt h H locs ls hP hD hS hl) (fun h => kf h H locs ls hP hD hS hl)
theorem xw_icmp_lt (C : xw_C p s m args c cc nL own Ts D cl tys A H0) {x y : Int32} {off : Int} {tgt : Nat} (hdg : decode cc pc = .ok (.if_icmp .lt off, 3)) (ht : (pc : Int) + off = (tgt : Int)) (hp : pc + 3 = pc')
    (kt : x < y → XW p l e R s m args below meth c D cl A H0 nL ws cells slots Q tgt lv rest) (kf : ¬ x < y → XW p l e R s m args below meth c D cl A H0 nL ws cells slots Q pc' lv rest) : XW p l e R s m args below meth c D cl A H0 nL ws cells slots Q pc lv (.int y :: .int x :: rest) := by
  subst hp
  exact fun H locs ls hP hD hS hl => lv_icmp_lt C.1 C.2.1 hdg ht (fun h => kt h H locs ls hP hD hS hl) (fun h => kf h H locs ls hP hD hS hl)
theorem xw_icmp_ge (C : xw_C p s m args c cc nL own Ts D cl tys A H0) {x y : Int32} {off : Int} {tgt : Nat} (hdg : decode cc pc = .ok (.if_icmp .ge off, 3)) (ht : (pc : Int) + off = (tgt : Int)) (hp : pc + 3 = pc')
    (kt : y ≤ x → XW p l e R s m args below meth c D cl A H0 nL ws cells slots Q tgt lv rest) (kf : ¬ y ≤ x → XW p l e R s m args below meth c D cl A H0 nL ws cells slots Q pc' lv rest) : XW p l e R s m args below meth c D cl A H0 nL ws cells slots Q pc lv (.int y :: .int x :: rest) := by
  subst hp
  exact fun H locs ls hP hD hS hl => lv_icmp_ge C.1 C.2.1 hdg ht (fun h => kt h H locs ls hP hD hS hl) (fun h => kf h H locs ls hP hD hS hl)
theorem xw_icmp_gt (C : xw_C p s m args c cc nL own Ts D cl tys A H0) {x y : Int32} {off : Int} {tgt : Nat} (hdg : decode cc pc = .ok (.if_icmp .gt off, 3)) (ht : (pc : Int) + off = (tgt : Int)) (hp : pc + 3 = pc')
    (kt : y < x → XW p l e R s m args below meth c D cl A H0 nL ws cells slots Q tgt lv rest) (kf : ¬ y < x → XW p l e R s m args below meth c D cl A H0 nL ws cells slots Q pc' lv rest) : XW p l e R s m args below meth c D cl A H0 nL ws cells slots Q pc lv (.int y :: .int x :: rest) := by
  subst hp
  exact fun H locs ls hP hD hS hl => lv_icmp_gt C.1 C.2.1 hdg ht (fun h => kt h H locs ls hP hD hS hl) (fun h => kf h H locs ls hP hD hS hl)
theorem xw_icmp_le (C : xw_C p s m args c cc nL own Ts D cl tys A H0) {x y : Int32} {off : Int} {tgt : Nat} (hdg : decode cc pc = .ok (.if_icmp .le off, 3)) (ht : (pc : Int) + off = (tgt : Int)) (hp : pc + 3 = pc')
    (kt : x ≤ y → XW p l e R s m args below meth c D cl A H0 nL ws cells slots Q tgt lv rest) (kf : ¬ x ≤ y → XW p l e R s m args below meth c D cl A H0 nL ws cells slots Q pc' lv rest) : XW p l e R s m args below meth c D cl A H0 nL ws cells slots Q pc lv (.int y :: .int x :: rest) := by
  subst hp
  exact fun H locs ls hP hD hS hl => lv_icmp_le C.1 C.2.1 hdg ht (fun h => kt h H locs ls hP hD hS hl) (fun h => kf h H locs ls hP hD hS hl)
theorem xw_goto (C : xw_C p s m args c cc nL own Ts D cl tys A H0) {off : Int} {tgt : Nat} (hdg : decode cc pc = .ok (.goto off, 3)) (ht : (pc : Int) + off = (tgt : Int)) (k : XW p l e R s m args below meth c D cl A H0 nL ws cells slots Q tgt lv rest) : XW p l e R s m args below meth c D cl A H0 nL ws cells slots Q pc lv rest :=
  fun H locs ls hP hD hS hl => lv_goto C.1 C.2.1 hdg ht (k H locs ls hP hD hS hl)
theorem xw_tableOut (C : xw_C p s m args c cc nL own Ts D cl tys A H0) {dflt lo hi : Int} {offs : Array Int} {len : Nat} {x : Int32} {tgt : Nat} (hdg : decode cc pc = .ok (.tableswitch dflt lo hi offs, len)) (h : x.toInt < lo ∨ hi < x.toInt) (ht : (pc : Int) + dflt = (tgt : Int)) (k : XW p l e R s m args below meth c D cl A H0 nL ws cells slots Q tgt lv rest) : XW p l e R s m args below meth c D cl A H0 nL ws cells slots Q pc lv (.int x :: rest) :=
  fun H locs ls hP hD hS hl => lv_tableOut C.1 C.2.1 hdg h ht (k H locs ls hP hD hS hl)
theorem xw_tableIn (C : xw_C p s m args c cc nL own Ts D cl tys A H0) {dflt lo hi : Int} {offs : Array Int} {len : Nat} {x : Int32} {off : Int} {tgt : Nat} (hdg : decode cc pc = .ok (.tableswitch dflt lo hi offs, len)) (h1 : ¬ x.toInt < lo) (h2 : ¬ hi < x.toInt) (ho : offs[(x.toInt - lo).toNat]? = some off) (ht : (pc : Int) + off = (tgt : Int)) (k : XW p l e R s m args below meth c D cl A H0 nL ws cells slots Q tgt lv rest) : XW p l e R s m args below meth c D cl A H0 nL ws cells slots Q pc lv (.int x :: rest) :=
  fun H locs ls hP hD hS hl => lv_tableIn C.1 C.2.1 hdg h1 h2 ho ht (k H locs ls hP hD hS hl)
theorem xw_lookup (C : xw_C p s m args c cc nL own Ts D cl tys A H0) {dflt : Int} {ps : Array (Int × Int)} {len : Nat} {x : Int32} {off : Int} {tgt : Nat} (hdg : decode cc pc = .ok (.lookupswitch dflt ps, len)) (hps : (ps.toList.zip (ps.toList.drop 1)).all (fun (a, next) => a.1 < next.1) = true) (ho : Op.lookupswitch.offset ps.toList dflt x.toInt = off) (ht : (pc : Int) + off = (tgt : Int)) (k : XW p l e R s m args below meth c D cl A H0 nL ws cells slots Q tgt lv rest) : XW p l e R s m args below meth c D cl A H0 nL ws cells slots Q pc lv (.int x :: rest) :=
  fun H locs ls hP hD hS hl => lv_lookup C.1 C.2.1 hdg hps ho ht (k H locs ls hP hD hS hl)
/-- a field is read: row q0 of the world, an object of the kind ci, its field k -/
theorem xw_get (C : xw_C p s m args c cc nL own Ts D cl tys A H0) {ref Cn : String} {T : u_T} {N ci index a : Nat} (hin : ∀ w ∈ u_ws Cn T N, w ∈ Ts) (q0 : Nat) {fs : List Value} (he : ws[q0]? = some (a, .inr (ci, fs))) (hc : cl[ci]? = some (Cn, T, N)) (k : Nat) (hk : k < N) (hlink : Cond.fieldLink own index ref (T k).2.1 (T k).2.2.1 ∈ Ts) (hsame : ref = (T k).1) {v : Value} (hv : fs[k]? = some v) (hdg : decode cc pc = .ok (.getfield index, 3)) (hp : pc + 3 = pc')
    (kk : XW p l e R s m args below meth c D cl A H0 nL ws cells slots Q pc' lv (v :: rest)) : XW p l e R s m args below meth c D cl A H0 nL ws cells slots Q pc lv (.ref a :: rest) := by
  subst hp; subst hsame
  exact fun H locs ls hP hD hS hl => va_get (D := D) C.1 C.2.1 C.2.2.2.2.1 hin C.2.2.2.1 C.2.2.2.2.2.1 hP q0 he hc k hk (C.2.2.2.2.1 _ hlink) (fun _ h9 => h9) hv hdg (kk H locs ls hP hD hS hl)
theorem xw_put (C : xw_C p s m args c cc nL own Ts D cl tys A H0) {ref Cn : String} {T : u_T} {N ci index a : Nat} (hin : ∀ w ∈ u_ws Cn T N, w ∈ Ts) (ty0 : Nat → FieldType) (hty : ∀ k, k < N → parseFieldDescriptor (T k).2.2.1 = some (ty0 k)) (hnm : ∀ a, a < N → ∀ b, b < N → a ≠ b → (T a).2.1 ≠ (T b).2.1) (q0 : Nat) {fs : List Value} (he : ws[q0]? = some (a, .inr (ci, fs))) (hc : cl[ci]? = some (Cn, T, N)) (k : Nat) (hk : k < N) (hlink : Cond.fieldLink own index ref (T k).2.1 (T k).2.2.1 ∈ Ts) (hsame : ref = (T k).1) (hfin : (T k).2.2.2 = false) {ty : FieldType} {v : Value} (hd : parseFieldDescriptor (T k).2.2.1 = some ty) (hn : narrow ty v = v) (hfit : fits ty v = true) (hlen : k < fs.length) {ws' : va_W} (hws : ws.set q0 (a, .inr (ci, fs.set k v)) = ws') (hdg : decode cc pc = .ok (.putfield index, 3)) (hp : pc + 3 = pc')
    (kk : XW p l e R s m args below meth c D cl A H0 nL ws' cells slots Q pc' lv rest) : XW p l e R s m args below meth c D cl A H0 nL ws cells slots Q pc lv (v :: .ref a :: rest) := by
  subst hp; subst hsame; subst hws
  exact fun H locs ls hP hD hS hl => va_put (D := D) C.1 C.2.1 C.2.2.2.2.1 hin ty0 hty hnm C.2.2.2.1 C.2.2.2.2.2.1 hP hD hS q0 he hc k hk (C.2.2.2.2.1 _ hlink) (fun _ h9 => h9) hfin hd hn hfit hlen hdg (fun H1 locs1 hP1 hD1 hS1 => kk H1 locs1 ls hP1 hD1 hS1 hl)
theorem xw_iald (C : xw_C p s m args c cc nL own Ts D cl tys A H0) (q0 t0 : Nat) {cA : ClassId} {n a : Nat} {f : Nat → Int32} (ha : ws[q0]? = some (a, .inl (cA, n, .inl f))) (ht : tys[t0]? = some (cA, .int)) {i : Int32} (j : Nat) (hi : i = nI j) (hj : j < n) (hn : n < 2 ^ 31) (hdg : decode cc pc = .ok (.iaload, 1)) (hp : pc + 1 = pc')
    (kk : XW p l e R s m args below meth c D cl A H0 nL ws cells slots Q pc' lv (.int (f j) :: rest)) : XW p l e R s m args below meth c D cl A H0 nL ws cells slots Q pc lv (.int i :: .ref a :: rest) := by
  subst hp; subst hi
  refine fun H locs ls hP hD hS hl => va_iald C.1 C.2.1 C.2.2.2.2.2.1 hP q0 t0 ha ht (vp_in_nI hj hn) hdg ?_
  rw [nI_clamp (by omega)]
  exact kk H locs ls hP hD hS hl
theorem xw_zald (C : xw_C p s m args c cc nL own Ts D cl tys A H0) (q0 t0 : Nat) {cA : ClassId} {n a : Nat} {f : Nat → Int32} (ha : ws[q0]? = some (a, .inl (cA, n, .inl f))) (ht : tys[t0]? = some (cA, .boolean)) {i : Int32} (j : Nat) (hi : i = nI j) (hj : j < n) (hn : n < 2 ^ 31) (hdg : decode cc pc = .ok (.baload, 1)) (hp : pc + 1 = pc')
    (kk : XW p l e R s m args below meth c D cl A H0 nL ws cells slots Q pc' lv (.int (f j) :: rest)) : XW p l e R s m args below meth c D cl A H0 nL ws cells slots Q pc lv (.int i :: .ref a :: rest) := by
  subst hp; subst hi
  refine fun H locs ls hP hD hS hl => va_zald C.1 C.2.1 C.2.2.2.2.2.1 hP q0 t0 ha ht (vp_in_nI hj hn) hdg ?_
  rw [nI_clamp (by omega)]
  exact kk H locs ls hP hD hS hl
theorem xw_iast (C : xw_C p s m args c cc nL own Ts D cl tys A H0) (q0 t0 : Nat) {cA : ClassId} {n a : Nat} {f : Nat → Int32} (ha : ws[q0]? = some (a, .inl (cA, n, .inl f))) (ht : tys[t0]? = some (cA, .int)) {i x : Int32} (j : Nat) (hi : i = nI j) (hj : j < n) (hn : n < 2 ^ 31) {ws' : va_W} (hws : ws.set q0 (a, .inl (cA, n, .inl (upd f j x))) = ws') (hdg : decode cc pc = .ok (.iastore, 1)) (hp : pc + 1 = pc')
    (kk : XW p l e R s m args below meth c D cl A H0 nL ws' cells slots Q pc' lv rest) : XW p l e R s m args below meth c D cl A H0 nL ws cells slots Q pc lv (.int x :: .int i :: .ref a :: rest) := by
  subst hp; subst hi; subst hws
  refine fun H locs ls hP hD hS hl => va_iast C.1 C.2.1 C.2.2.2.2.2.1 hP hD hS q0 t0 ha ht (vp_in_nI hj hn) hdg (fun H1 locs1 hP1 hD1 hS1 => ?_)
  rw [nI_clamp (by omega)] at hP1 hD1
  exact kk H1 locs1 ls hP1 hD1 hS1 hl
theorem xw_zast (C : xw_C p s m args c cc nL own Ts D cl tys A H0) (q0 t0 : Nat) {cA : ClassId} {n a : Nat} {f : Nat → Int32} (ha : ws[q0]? = some (a, .inl (cA, n, .inl f))) (ht : tys[t0]? = some (cA, .boolean)) {i x : Int32} (j : Nat) (hi : i = nI j) (hj : j < n) (hn : n < 2 ^ 31) {ws' : va_W} (hws : ws.set q0 (a, .inl (cA, n, .inl (upd f j (vp_nar .boolean x)))) = ws') (hdg : decode cc pc = .ok (.bastore, 1)) (hp : pc + 1 = pc')
    (kk : XW p l e R s m args below meth c D cl A H0 nL ws' cells slots Q pc' lv rest) : XW p l e R s m args below meth c D cl A H0 nL ws cells slots Q pc lv (.int x :: .int i :: .ref a :: rest) := by
  subst hp; subst hi; subst hws
  refine fun H locs ls hP hD hS hl => va_zast C.1 C.2.1 C.2.2.2.2.2.1 hP hD hS q0 t0 ha ht (vp_in_nI hj hn) hdg (fun H1 locs1 hP1 hD1 hS1 => ?_)
  rw [nI_clamp (by omega)] at hP1 hD1
  exact kk H1 locs1 ls hP1 hD1 hS1 hl
theorem xw_lald (C : xw_C p s m args c cc nL own Ts D cl tys A H0) (q0 t0 : Nat) {cA : ClassId} {n a : Nat} {f : Nat → Int64} (ha : ws[q0]? = some (a, .inl (cA, n, .inr (.inl f)))) (ht : tys[t0]? = some (cA, .long)) {i : Int32} (j : Nat) (hi : i = nI j) (hj : j < n) (hn : n < 2 ^ 31) (hdg : decode cc pc = .ok (.laload, 1)) (hp : pc + 1 = pc')
    (kk : XW p l e R s m args below meth c D cl A H0 nL ws cells slots Q pc' lv (.long (f j) :: rest)) : XW p l e R s m args below meth c D cl A H0 nL ws cells slots Q pc lv (.int i :: .ref a :: rest) := by
  subst hp; subst hi
  refine fun H locs ls hP hD hS hl => va_lald C.1 C.2.1 C.2.2.2.2.2.1 hP q0 t0 ha ht (vp_in_nI hj hn) hdg ?_
  rw [nI_clamp (by omega)]
  exact kk H locs ls hP hD hS hl
theorem xw_last (C : xw_C p s m args c cc nL own Ts D cl tys A H0) (q0 t0 : Nat) {cA : ClassId} {n a : Nat} {f : Nat → Int64} (ha : ws[q0]? = some (a, .inl (cA, n, .inr (.inl f)))) (ht : tys[t0]? = some (cA, .long)) {i : Int32} {x : Int64} (j : Nat) (hi : i = nI j) (hj : j < n) (hn : n < 2 ^ 31) {ws' : va_W} (hws : ws.set q0 (a, .inl (cA, n, .inr (.inl (vp_updL f j x)))) = ws') (hdg : decode cc pc = .ok (.lastore, 1)) (hp : pc + 1 = pc')
    (kk : XW p l e R s m args below meth c D cl A H0 nL ws' cells slots Q pc' lv rest) : XW p l e R s m args below meth c D cl A H0 nL ws cells slots Q pc lv (.long x :: .int i :: .ref a :: rest) := by
  subst hp; subst hi; subst hws
  refine fun H locs ls hP hD hS hl => va_last C.1 C.2.1 C.2.2.2.2.2.1 hP hD hS q0 t0 ha ht (vp_in_nI hj hn) hdg (fun H1 locs1 hP1 hD1 hS1 => ?_)
  rw [nI_clamp (by omega)] at hP1 hD1
  exact kk H1 locs1 ls hP1 hD1 hS1 hl
theorem xw_aald (C : xw_C p s m args c cc nL own Ts D cl tys A H0) (q0 t0 : Nat) {cA : ClassId} {Cn : String} {n a b : Nat} {f : Nat → Option Nat} (ha : ws[q0]? = some (a, .inl (cA, n, .inr (.inr (.inr (.inr f)))))) (ht : tys[t0]? = some (cA, .object Cn)) {i : Int32} (j : Nat) (hi : i = nI j) (hj : j < n) (hn : n < 2 ^ 31) (hf : f j = some b) (hdg : decode cc pc = .ok (.aaload, 1)) (hp : pc + 1 = pc')
    (kk : XW p l e R s m args below meth c D cl A H0 nL ws cells slots Q pc' lv (.ref b :: rest)) : XW p l e R s m args below meth c D cl A H0 nL ws cells slots Q pc lv (.int i :: .ref a :: rest) := by
  subst hp; subst hi
  refine fun H locs ls hP hD hS hl => va_aldq C.1 C.2.1 C.2.2.2.2.2.1 hP q0 t0 ha ht (vp_in_nI hj hn) hdg ?_
  rw [nI_clamp (by omega), hf]
  exact kk H locs ls hP hD hS hl
theorem xw_alen (C : xw_C p s m args c cc nL own Ts D cl tys A H0) (q0 t0 : Nat) {cA : ClassId} {x : vp_A} {a : Nat} (ha : ws[q0]? = some (a, .inl (cA, x))) {ty : FieldType} (ht : tys[t0]? = some (cA, ty)) {v : Int32} (hv : Int32.ofNat x.1 = v) (hdg : decode cc pc = .ok (.arraylength, 1)) (hp : pc + 1 = pc')
    (kk : XW p l e R s m args below meth c D cl A H0 nL ws cells slots Q pc' lv (.int v :: rest)) : XW p l e R s m args below meth c D cl A H0 nL ws cells slots Q pc lv (.ref a :: rest) := by
  subst hp
  exact fun H locs ls hP hD hS hl => va_alen C.1 C.2.1 C.2.2.2.2.2.1 hP q0 t0 ha ht hv hdg (kk H locs ls hP hD hS hl)
/-- the world before a method and behind it -/
def xw_U (D : va_G) (cl : List vw_C) (tys : List (ClassId × FieldType)) (W0 : va_W) (sz : Nat) (K : State → Prop) : State → Prop := fun U => U.heap.size = sz ∧ va_P D cl W0 U.heap ∧ va_K D cl tys U ∧ va_D (fun _ => True) W0 ∧ K U
def xw_B {S : Type} (D : va_G) (cl : List vw_C) (tys : List (ClassId × FieldType)) (A : Nat → Prop) (F : S → va_W) : S → State → Prop := fun u t => va_P D cl (F u) t.heap ∧ va_K D cl tys t ∧ va_D A (F u)
/-- contracts: an int comes back, or nothing; from a world W0, a world F u behind it -/
def xw_Mi {S : Type} (l : Launch) (y : MethodName) (ws0 : List Cond) (rm : Room) (D : va_G) (cl : List vw_C) (tys : List (ClassId × FieldType)) (av : List Value) (W0 : va_W) (K : State → Prop) (mc ms : Nat) (F : S → va_W) (post : Int32 → S → Prop) : Prop :=
  ∀ sz, Met l y ws0 rm (va_Pc av (xw_U D cl tys W0 sz K)) (va_Qi post (xw_B D cl tys (va_A W0 sz) F) (va_A W0 sz)) mc ms (va_A W0 sz)
def xw_Mv {S : Type} (l : Launch) (y : MethodName) (ws0 : List Cond) (rm : Room) (D : va_G) (cl : List vw_C) (tys : List (ClassId × FieldType)) (av : List Value) (W0 : va_W) (K : State → Prop) (mc ms : Nat) (F : S → va_W) (post : S → Prop) : Prop :=
  ∀ sz, Met l y ws0 rm (va_Pc av (xw_U D cl tys W0 sz K)) (va_Qv post (xw_B D cl tys (va_A W0 sz) F) (va_A W0 sz)) mc ms (va_A W0 sz)
theorem xw_met {y : MethodName} {ws0 : List Cond} {rm : Room} {Qc : Array Value → State → Outcome → State → Prop} {mc ms maxL sz : Nat} {ret : Option FieldType} {av : List Value} {W0 : va_W} {K : State → Prop}
    (hy : plainName y.cls = true) (hw : ws0 = Cond.code y cc maxL ret :: Ts) (hn : (lg_sl av).length ≤ maxL)
    (body : ∀ (p : Program) (e : Env) (s : State) (m : MethodId) (args : Array Value) (below : List Frame) (meth : Method) (c : Code), meth.sig.returnType = ret → meth.locks = false → meth.name = y.name → s.heap.size = sz → K s → xw_C p s m args c cc maxL y.cls Ts D cl tys (va_A W0 sz) s.heap →
      XW p l e rm s m args below meth c D cl (va_A W0 sz) s.heap maxL W0 0 0 (MQ below Qc args s mc ms (va_A W0 sz)) 0 (lv_args 0 av) []) :
    Met l y ws0 rm (va_Pc av (xw_U D cl tys W0 sz K)) Qc mc ms (va_A W0 sz) := by
  refine Met.ofW (cc := cc) (maxL := maxL) (ret := ret) hy hw ?_
  intro p e s m args below meth c s₁ B hml hv
  obtain ⟨rfl, hsz, hP, hK, hD, hk⟩ := hv
  have hts : ∀ w ∈ Ts, w.before _ s = true := fun w h => atoms_spec (ws := ws0) B.pre w (by rw [hw]; exact List.mem_cons_of_mem _ h)
  have hown : s.vm.findClass y.cls = some m.cls := findClass_of_methodNamed B.named
  rw [lg_entry_eq]
  refine body p e s m _ below meth c B.returns B.notSynchronized (name_of_methodNamed B.named B.method).1 hsz hk ⟨B.exec, B.bytes, hml, hown, hts, hK, ?_⟩ s.heap [] _ hP ?_ va_S.rf (lv_entry av hn)
  · intro q h
    exact Or.inr (by omega)
  · exact hD.self
theorem xw_iret (C : xw_C p s m args c cc nL own Ts D cl tys A s.heap) (hr : meth.sig.returnType = some .int) (hlk : meth.locks = false) {S : Type} {post : Int32 → S → Prop} {F : S → va_W} {v : Int32} (u : S) (hF : F u = ws) (hu : post v u) (hdg : decode cc pc = .ok (.ireturn, 1)) :
    XW p l e R s m args below meth c D cl A s.heap nL ws cells slots (MQ below (va_Qi post (xw_B D cl tys A F) A) args s cells slots A) pc lv [.int v] := by
  subst hF
  exact fun H locs ls hP hD hS hl => W.iret (v := v) C.1 C.2.1 hr (fun t ht hW => ⟨⟨v, u, rfl, hu, by rw [ht]; exact hP, va_K.moved hW.alike C.2.2.2.2.2.1, hD⟩, hS.F ht⟩) hS.2.2 hdg hlk
theorem xw_zret (C : xw_C p s m args c cc nL own Ts D cl tys A s.heap) {ty : FieldType} (hr : meth.sig.returnType = some ty) (hlk : meth.locks = false) {S : Type} {post : Int32 → S → Prop} {F : S → va_W} {v : Int32} (hn : narrow ty (.int v) = .int v) (u : S) (hF : F u = ws) (hu : post v u) (hdg : decode cc pc = .ok (.ireturn, 1)) :
    XW p l e R s m args below meth c D cl A s.heap nL ws cells slots (MQ below (va_Qi post (xw_B D cl tys A F) A) args s cells slots A) pc lv [.int v] := by
  subst hF
  exact fun H locs ls hP hD hS hl => W.zret (v := v) C.1 C.2.1 hr hn (fun t ht hW => ⟨⟨v, u, rfl, hu, by rw [ht]; exact hP, va_K.moved hW.alike C.2.2.2.2.2.1, hD⟩, hS.F ht⟩) hS.2.2 hdg hlk
theorem xw_vret (C : xw_C p s m args c cc nL own Ts D cl tys A s.heap) (hr : meth.sig.returnType = none) (hlk : meth.locks = false) {S : Type} {post : S → Prop} {F : S → va_W} (u : S) (hF : F u = ws) (hu : post u) (hdg : decode cc pc = .ok (.return_, 1)) :
    XW p l e R s m args below meth c D cl A s.heap nL ws cells slots (MQ below (va_Qv post (xw_B D cl tys A F) A) args s cells slots A) pc lv [] := by
  subst hF
  exact fun H locs ls hP hD hS hl => W.vret C.1 C.2.1 hr (fun t ht hW => ⟨⟨u, rfl, hu, by rw [ht]; exact hP, va_K.moved hW.alike C.2.2.2.2.2.1, hD⟩, hS.F ht⟩) hS.2.2 hdg hlk
theorem xw_free {H : Heap} {locs : List Loc} (hD : va_D A ws) (hS : va_S A H0 H locs) (hA : ∀ q, H0.size ≤ q → A q) : ∀ q, va_A ws H.size q → A q := by
  intro q h
  rcases h with ⟨k, e, h⟩ | h
  · exact hD.2 k _ h
  · exact hA q (Nat.le_trans hS.1 h)
theorem xw_blind {av : List Value} {W0 : va_W} {sz : Nat} {K : State → Prop} (hKb : ∀ (U : State) (g : JFrame) (mk : MethodId) (a : Array Value), K U → K (U.calling g mk a)) : FrameBlind (va_Pc av (xw_U D cl tys W0 sz K)) := fun a U g mk q => by
  obtain ⟨q0, q1, qP, qK, qD, qk⟩ := q
  exact ⟨q0, q1, qP, va_K.moved (u := U) (U := U.calling g mk a) (Vm.Alike.refl U.vm) qK, qD, hKb U g mk a qk⟩
/-- a call on an object of the world: an int comes back -/
theorem xw_callVi (C : xw_C p s m args c cc nL own Ts D cl tys A H0) {S : Type} {y : MethodName} {ws1 : List Cond} {rm : Room} {b : Nat} {As : List Value} {K : State → Prop} {mc ms : Nat} {F : S → va_W} {post : Int32 → S → Prop} {Cn : String} {index maxL n : Nat} {bytes : ByteArray} {ret : Option FieldType} {q : vw_C} {fs : List Value}
    (hM : xw_Mi l y ws1 rm D cl tys (.ref b :: As) ws K mc ms F post) (cw : CallW R s args own Cn index y bytes maxL ret ws1 rm mc ms n) (q0 : Nat) {ci : Nat} (he : ws[q0]? = some (b, .inr (ci, fs))) (hc : cl[ci]? = some q) (hq : q.1 = Cn)
    (hKb : ∀ (U : State) (g : JFrame) (mk : MethodId) (a : Array Value), K U → K (U.calling g mk a)) (hKc : ∀ (H : Heap) (locs : List Loc) (U : State), va_D A ws → va_S A H0 H locs → U.heap = H → s.WarmedH U.vm → K U)
    (hn : As.length = n) (hst : st = As.reverse ++ .ref b :: rest) (hW8 : (rest.map fun v => v.category).sum ≤ 8) (hdg : decode cc pc = .ok (.invokevirtual index, 3)) (hf : cells + mc ≤ R.cells ∧ slots + ms ≤ R.slots) (hp : pc + 3 = pc')
    (kk : ∀ (r : Int32) (u : S), post r u → XW p l e R s m args below meth c D cl A H0 nL (F u) (cells + mc) (slots + ms) Q pc' lv (.int r :: rest)) : XW p l e R s m args below meth c D cl A H0 nL ws cells slots Q pc lv st := by
  subst hp; subst hq
  intro H locs ls hP hD hS hl
  have hFc := xw_free hD hS C.2.2.2.2.2.2
  refine va_calli (va_runV (rest := rest) ⟨C.1, C.2.1, C.2.2.1, C.2.2.2.1, C.2.2.2.2.1⟩ (hM H.size) cw ⟨xw_blind hKb, va_recv C.2.2.2.2.2.1 hP hc he, fun U hU hW => ⟨rfl, by rw [hU], by rw [hU]; exact hP, va_K.moved hW.alike C.2.2.2.2.2.1, hD.weaken (fun _ _ _ _ => trivial), hKc H locs U hD hS hU hW⟩⟩ rfl hn hl.1 hst (lv_room hW8) hdg hf) hS (fun q _ h => hFc q h) hFc (fun r u t H1 locs1 ht hvm hpost hB hz1 hk1 hS1 => ?_)
  obtain ⟨hP1, hK1, hD1⟩ := hB
  rw [ht] at hP1
  exact kk r u hpost H1 locs1 ls hP1 (hD1.weaken (fun k q _ h => hFc _ h)) hS1 hl
theorem xw_callVv (C : xw_C p s m args c cc nL own Ts D cl tys A H0) {S : Type} {y : MethodName} {ws1 : List Cond} {rm : Room} {b : Nat} {As : List Value} {K : State → Prop} {mc ms : Nat} {F : S → va_W} {post : S → Prop} {Cn : String} {index maxL n : Nat} {bytes : ByteArray} {ret : Option FieldType} {q : vw_C} {fs : List Value}
    (hM : xw_Mv l y ws1 rm D cl tys (.ref b :: As) ws K mc ms F post) (cw : CallW R s args own Cn index y bytes maxL ret ws1 rm mc ms n) (q0 : Nat) {ci : Nat} (he : ws[q0]? = some (b, .inr (ci, fs))) (hc : cl[ci]? = some q) (hq : q.1 = Cn)
    (hKb : ∀ (U : State) (g : JFrame) (mk : MethodId) (a : Array Value), K U → K (U.calling g mk a)) (hKc : ∀ (H : Heap) (locs : List Loc) (U : State), va_D A ws → va_S A H0 H locs → U.heap = H → s.WarmedH U.vm → K U)
    (hn : As.length = n) (hst : st = As.reverse ++ .ref b :: rest) (hW8 : (rest.map fun v => v.category).sum ≤ 8) (hdg : decode cc pc = .ok (.invokevirtual index, 3)) (hf : cells + mc ≤ R.cells ∧ slots + ms ≤ R.slots) (hp : pc + 3 = pc')
    (kk : ∀ (u : S), post u → XW p l e R s m args below meth c D cl A H0 nL (F u) (cells + mc) (slots + ms) Q pc' lv rest) : XW p l e R s m args below meth c D cl A H0 nL ws cells slots Q pc lv st := by
  subst hp; subst hq
  intro H locs ls hP hD hS hl
  have hFc := xw_free hD hS C.2.2.2.2.2.2
  refine va_callv (va_runV (rest := rest) ⟨C.1, C.2.1, C.2.2.1, C.2.2.2.1, C.2.2.2.2.1⟩ (hM H.size) cw ⟨xw_blind hKb, va_recv C.2.2.2.2.2.1 hP hc he, fun U hU hW => ⟨rfl, by rw [hU], by rw [hU]; exact hP, va_K.moved hW.alike C.2.2.2.2.2.1, hD.weaken (fun _ _ _ _ => trivial), hKc H locs U hD hS hU hW⟩⟩ rfl hn hl.1 hst (lv_room hW8) hdg hf) hS (fun q _ h => hFc q h) hFc (fun u t H1 locs1 ht hvm hpost hB hz1 hk1 hS1 => ?_)
  obtain ⟨hP1, hK1, hD1⟩ := hB
  rw [ht] at hP1
  exact kk u hpost H1 locs1 ls hP1 (hD1.weaken (fun k q _ h => hFc _ h)) hS1 hl
theorem xw_callSi (C : xw_C p s m args c cc nL own Ts D cl tys A H0) {S : Type} {y : MethodName} {ws1 : List Cond} {rm : Room} {As : List Value} {K : State → Prop} {mc ms : Nat} {F : S → va_W} {post : Int32 → S → Prop} {index maxL n : Nat} {bytes : ByteArray} {ret : Option FieldType}
    (hM : xw_Mi l y ws1 rm D cl tys As ws K mc ms F post) (cw : CallB R s args own index y bytes maxL ret ws1 rm mc ms n ∧ (Cond.static y).before args s = true)
    (hKb : ∀ (U : State) (g : JFrame) (mk : MethodId) (a : Array Value), K U → K (U.calling g mk a)) (hKc : ∀ (H : Heap) (locs : List Loc) (U : State), va_D A ws → va_S A H0 H locs → U.heap = H → s.WarmedH U.vm → K U)
    (hn : As.length = n) (hst : st = As.reverse ++ rest) (hW8 : (rest.map fun v => v.category).sum ≤ 8) (hdg : decode cc pc = .ok (.invokestatic index, 3)) (hf : cells + mc ≤ R.cells ∧ slots + ms ≤ R.slots) (hp : pc + 3 = pc')
    (kk : ∀ (r : Int32) (u : S), post r u → XW p l e R s m args below meth c D cl A H0 nL (F u) (cells + mc) (slots + ms) Q pc' lv (.int r :: rest)) : XW p l e R s m args below meth c D cl A H0 nL ws cells slots Q pc lv st := by
  subst hp
  intro H locs ls hP hD hS hl
  have hFc := xw_free hD hS C.2.2.2.2.2.2
  refine va_calli (va_runS (rest := rest) ⟨C.1, C.2.1, C.2.2.1, C.2.2.2.1, C.2.2.2.2.1⟩ (hM H.size) cw ⟨xw_blind hKb, fun U hU hW => ⟨rfl, by rw [hU], by rw [hU]; exact hP, va_K.moved hW.alike C.2.2.2.2.2.1, hD.weaken (fun _ _ _ _ => trivial), hKc H locs U hD hS hU hW⟩⟩ rfl hn hl.1 hst (lv_room hW8) hdg hf) hS (fun q _ h => hFc q h) hFc (fun r u t H1 locs1 ht hvm hpost hB hz1 hk1 hS1 => ?_)
  obtain ⟨hP1, hK1, hD1⟩ := hB
  rw [ht] at hP1
  exact kk r u hpost H1 locs1 ls hP1 (hD1.weaken (fun k q _ h => hFc _ h)) hS1 hl
theorem xw_callSv (C : xw_C p s m args c cc nL own Ts D cl tys A H0) {S : Type} {y : MethodName} {ws1 : List Cond} {rm : Room} {As : List Value} {K : State → Prop} {mc ms : Nat} {F : S → va_W} {post : S → Prop} {index maxL n : Nat} {bytes : ByteArray} {ret : Option FieldType}
    (hM : xw_Mv l y ws1 rm D cl tys As ws K mc ms F post) (cw : CallB R s args own index y bytes maxL ret ws1 rm mc ms n ∧ (Cond.static y).before args s = true)
    (hKb : ∀ (U : State) (g : JFrame) (mk : MethodId) (a : Array Value), K U → K (U.calling g mk a)) (hKc : ∀ (H : Heap) (locs : List Loc) (U : State), va_D A ws → va_S A H0 H locs → U.heap = H → s.WarmedH U.vm → K U)
    (hn : As.length = n) (hst : st = As.reverse ++ rest) (hW8 : (rest.map fun v => v.category).sum ≤ 8) (hdg : decode cc pc = .ok (.invokestatic index, 3)) (hf : cells + mc ≤ R.cells ∧ slots + ms ≤ R.slots) (hp : pc + 3 = pc')
    (kk : ∀ (u : S), post u → XW p l e R s m args below meth c D cl A H0 nL (F u) (cells + mc) (slots + ms) Q pc' lv rest) : XW p l e R s m args below meth c D cl A H0 nL ws cells slots Q pc lv st := by
  subst hp
  intro H locs ls hP hD hS hl
  have hFc := xw_free hD hS C.2.2.2.2.2.2
  refine va_callv (va_runS (rest := rest) ⟨C.1, C.2.1, C.2.2.1, C.2.2.2.1, C.2.2.2.2.1⟩ (hM H.size) cw ⟨xw_blind hKb, fun U hU hW => ⟨rfl, by rw [hU], by rw [hU]; exact hP, va_K.moved hW.alike C.2.2.2.2.2.1, hD.weaken (fun _ _ _ _ => trivial), hKc H locs U hD hS hU hW⟩⟩ rfl hn hl.1 hst (lv_room hW8) hdg hf) hS (fun q _ h => hFc q h) hFc (fun u t H1 locs1 ht hvm hpost hB hz1 hk1 hS1 => ?_)
  obtain ⟨hP1, hK1, hD1⟩ := hB
  rw [ht] at hP1
  exact kk u hpost H1 locs1 ls hP1 (hD1.weaken (fun k q _ h => hFc _ h)) hS1 hl
/-- contracts that may throw: an exception E leaves a world too -/
def xw_XC {S : Type} (D : va_G) (cl : List vw_C) (tys : List (ClassId × FieldType)) (A : Nat → Prop) (F : S → va_W) (pe : String → S → Prop) : String → State → State → Prop := vx_X (fun _ : S => True) (fun E u t => pe E u ∧ xw_B D cl tys A F u t) A
def xw_Xi {S : Type} (l : Launch) (y : MethodName) (ws0 : List Cond) (rm : Room) (D : va_G) (cl : List vw_C) (tys : List (ClassId × FieldType)) (av : List Value) (W0 : va_W) (K : State → Prop) (mc ms : Nat) (F : S → va_W) (post : Int32 → S → Prop) (pe : String → S → Prop) : Prop :=
  ∀ sz, vx_Met l y ws0 rm (va_Pc av (xw_U D cl tys W0 sz K)) (va_Qi post (xw_B D cl tys (va_A W0 sz) F) (va_A W0 sz)) (xw_XC D cl tys (va_A W0 sz) F pe) mc ms (va_A W0 sz)
def xw_Xv {S : Type} (l : Launch) (y : MethodName) (ws0 : List Cond) (rm : Room) (D : va_G) (cl : List vw_C) (tys : List (ClassId × FieldType)) (av : List Value) (W0 : va_W) (K : State → Prop) (mc ms : Nat) (F : S → va_W) (post : S → Prop) (pe : String → S → Prop) : Prop :=
  ∀ sz, vx_Met l y ws0 rm (va_Pc av (xw_U D cl tys W0 sz K)) (va_Qv post (xw_B D cl tys (va_A W0 sz) F) (va_A W0 sz)) (xw_XC D cl tys (va_A W0 sz) F pe) mc ms (va_A W0 sz)
theorem xw_metX {y : MethodName} {ws0 : List Cond} {rm : Room} {Qc : Array Value → State → Outcome → State → Prop} {XC : String → State → State → Prop} {mc ms maxL sz : Nat} {ret : Option FieldType} {av : List Value} {W0 : va_W} {K : State → Prop}
    (hy : plainName y.cls = true) (hw : ws0 = Cond.code y cc maxL ret :: Ts) (hn : (lg_sl av).length ≤ maxL)
    (body : ∀ (p : Program) (e : Env) (s : State) (m : MethodId) (args : Array Value) (below : List Frame) (meth : Method) (c : Code), meth.sig.returnType = ret → meth.locks = false → (∀ x ∈ c.exceptionTable.toList, False) → s.heap.size = sz → K s → xw_C p s m args c cc maxL y.cls Ts D cl tys (va_A W0 sz) s.heap →
      XW p l e rm s m args below meth c D cl (va_A W0 sz) s.heap maxL W0 0 0 (vx_MQ below Qc XC args s mc ms (va_A W0 sz)) 0 (lv_args 0 av) []) :
    vx_Met l y ws0 rm (va_Pc av (xw_U D cl tys W0 sz K)) Qc XC mc ms (va_A W0 sz) := by
  refine vx_ofW (cc := cc) (maxL := maxL) (ret := ret) hy hw ?_
  intro p e s m args below meth c s₁ B hml hx hv
  obtain ⟨rfl, hsz, hP, hK, hD, hk⟩ := hv
  have hts : ∀ w ∈ Ts, w.before _ s = true := fun w h => atoms_spec (ws := ws0) B.pre w (by rw [hw]; exact List.mem_cons_of_mem _ h)
  have hown : s.vm.findClass y.cls = some m.cls := findClass_of_methodNamed B.named
  rw [lg_entry_eq]
  refine body p e s m _ below meth c B.returns B.notSynchronized hx hsz hk ⟨B.exec, B.bytes, hml, hown, hts, hK, ?_⟩ s.heap [] _ hP ?_ va_S.rf (lv_entry av hn)
  · intro q h
    exact Or.inr (by omega)
  · exact hD.self
/-- an exception E flies over the frame at pc -/
def XX (p : Program) (l : Launch) (e : Env) (R : Room) (s : State) (m : MethodId) (args : Array Value) (below : List Frame) (meth : Method) (c : Code) (D : va_G) (cl : List vw_C) (A : Nat → Prop) (H0 : Heap) (nL : Nat) (ws : va_W) (cells slots : Nat) (Q : State → Prop) (pc : Nat) (lv : List (Nat × Value)) (E : String) : Prop :=
  ∀ (H : Heap) (locs : List Loc) (ls : Array Slot) (rest : List Value) (q : Nat) (ce : Cell), va_P D cl ws H → va_D A ws → va_S A H0 H locs → lv_has ls nL lv → H[q]? = some ce → ce.vm = .none → s.vm.findClass E = some ce.cls → vx_W p l e R s m args below meth c H locs cells slots Q (F0 m pc ls rest) q
theorem xx_widen {k n : Nat} {E : String} (h1 : cells ≤ k) (h2 : slots ≤ n) (kk : XX p l e R s m args below meth c D cl A H0 nL ws k n Q pc lv E) : XX p l e R s m args below meth c D cl A H0 nL ws cells slots Q pc lv E :=
  fun H locs ls rest q ce hP hD hS hl h3 h4 h5 => vx_widen h1 h2 (kk H locs ls rest q ce hP hD hS hl h3 h4 h5)
theorem xx_out (C : xw_C p s m args c cc nL own Ts D cl tys A s.heap) (hlk : meth.locks = false) (hno : ∀ x ∈ c.exceptionTable.toList, False) {S : Type} {Qc : Array Value → State → Outcome → State → Prop} {F : S → va_W} {pe : String → S → Prop} {E : String} {mc ms : Nat} (u : S) (hF : F u = ws) (hu : pe E u) (hc : cells ≤ mc) (hs : slots ≤ ms) :
    XX p l e R s m args below meth c D cl A s.heap nL ws cells slots (vx_MQ below Qc (xw_XC D cl tys A F pe) args s mc ms A) pc lv E := by
  subst hF
  exact fun H locs ls rest q ce hP hD hS hl h3 h4 h5 => vx_out (fun x hx => (hno x hx).elim) hlk h3 h4 h5 (fun t ht hal => ⟨u, trivial, ⟨hu, by rw [ht]; exact hP, va_K.moved hal C.2.2.2.2.2.1, hD⟩, hS.F ht⟩) hS.2.2 hc hs
theorem xw_iretX (C : xw_C p s m args c cc nL own Ts D cl tys A s.heap) (hr : meth.sig.returnType = some .int) (hlk : meth.locks = false) {S : Type} {post : Int32 → S → Prop} {F : S → va_W} {XC : String → State → State → Prop} {mc ms : Nat} {v : Int32} (u : S) (hF : F u = ws) (hu : post v u) (hdg : decode cc pc = .ok (.ireturn, 1)) (hc : cells ≤ mc) (hs : slots ≤ ms) :
    XW p l e R s m args below meth c D cl A s.heap nL ws cells slots (vx_MQ below (va_Qi post (xw_B D cl tys A F) A) XC args s mc ms A) pc lv [.int v] :=
  fun H locs ls hP hD hS hl => vx_ret (W.widen hc hs (xw_iret C hr hlk u hF hu hdg H locs ls hP hD hS hl))
theorem xw_zretX (C : xw_C p s m args c cc nL own Ts D cl tys A s.heap) {ty : FieldType} (hr : meth.sig.returnType = some ty) (hlk : meth.locks = false) {S : Type} {post : Int32 → S → Prop} {F : S → va_W} {XC : String → State → State → Prop} {mc ms : Nat} {v : Int32} (hn : narrow ty (.int v) = .int v) (u : S) (hF : F u = ws) (hu : post v u) (hdg : decode cc pc = .ok (.ireturn, 1)) (hc : cells ≤ mc) (hs : slots ≤ ms) :
    XW p l e R s m args below meth c D cl A s.heap nL ws cells slots (vx_MQ below (va_Qi post (xw_B D cl tys A F) A) XC args s mc ms A) pc lv [.int v] :=
  fun H locs ls hP hD hS hl => vx_ret (W.widen hc hs (xw_zret C hr hlk hn u hF hu hdg H locs ls hP hD hS hl))
theorem xw_vretX (C : xw_C p s m args c cc nL own Ts D cl tys A s.heap) (hr : meth.sig.returnType = none) (hlk : meth.locks = false) {S : Type} {post : S → Prop} {F : S → va_W} {XC : String → State → State → Prop} {mc ms : Nat} (u : S) (hF : F u = ws) (hu : post u) (hdg : decode cc pc = .ok (.return_, 1)) (hc : cells ≤ mc) (hs : slots ≤ ms) :
    XW p l e R s m args below meth c D cl A s.heap nL ws cells slots (vx_MQ below (va_Qv post (xw_B D cl tys A F) A) XC args s mc ms A) pc lv [] :=
  fun H locs ls hP hD hS hl => vx_ret (W.widen hc hs (xw_vret C hr hlk u hF hu hdg H locs ls hP hD hS hl))
/-- throw new E("text") -/
theorem xw_throwS (C : xw_C p s m args c cc nL own Ts D cl tys A s.heap) (hl0 : l.stackTraces = false) (hlk : meth.locks = false) (hno : ∀ x ∈ c.exceptionTable.toList, False) {S : Type} {Qc : Array Value → State → Outcome → State → Prop} {F : S → va_W} {pe : String → S → Prop} {cls text : String} {names : List String} {ik is ic mc ms sa : Nat}
    (hcls : Bundle.fit cls = true) (hnames : ∀ n ∈ names, Bundle.fit n = true) (hk : Cond.classLink own ik cls ∈ Ts) (hini : Cond.initialized cls ∈ Ts) (hstr : vk_R own is text sa s) (hat : ∀ w ∈ vx_atS own ic cls names, w ∈ Ts)
    (hgood : ∀ w ∈ Cond.classLink own ik cls :: Cond.initialized cls :: vx_atS own ic cls names, vx_ot w = true)
    (hU : vx_Zq Bundle.tN "UNASSIGNED_STACK" Bundle.steD A s s.heap) (hN : vx_Zq Bundle.tN "SUPPRESSED_SENTINEL" Bundle.listD A s s.heap)
    (d0 : decode cc pc = .ok (.new ik, 3)) (d3 : decode cc (pc + 3) = .ok (.dup, 1)) (d4 : decode cc (pc + 4) = .ok (.ldc is, 2)) (d6 : decode cc (pc + 6) = .ok (.invokespecial ic, 3)) (d9 : decode cc (pc + 9) = .ok (.athrow, 1))
    (hRframes : names.length + 3 < R.frames) (hRlocals : (rest.map fun v => v.category).sum + (13 * (names.length + 1) + 43) ≤ R.locals) (hRcells : cells + 1 ≤ R.cells) (hRslots : slots + 6 ≤ R.slots)
    (u : S) (hF : F u = ws) (hu : pe cls u) (hc : cells + 1 ≤ mc) (hs : slots + 6 ≤ ms) :
    XW p l e R s m args below meth c D cl A s.heap nL ws cells slots (vx_MQ below Qc (xw_XC D cl tys A F pe) args s mc ms A) pc lv rest := by
  subst hF
  intro H locs ls hP hD hS hl
  refine vx_throwS C.1 C.2.1 hl0 C.2.2.2.1 hcls hnames (C.2.2.2.2.1 _ hk) (C.2.2.2.2.1 _ hini) hstr (fun w h => C.2.2.2.2.1 _ (hat w h)) hgood hU hN hS (hl.1.trans C.2.2.1.symm) d0 d3 d4 d6 d9 (fun x hx => (hno x hx).elim) hRframes hRlocals hRcells hRslots hlk (fun t hal hsz hkp => ?_) hS.2.2 hc hs
  have hP1 : va_P D cl (F u) t.heap := hP.kept (fun k q hk => hkp q.1 (vx_lt hP hk))
  refine ⟨u, trivial, ⟨hu, hP1, va_K.moved hal C.2.2.2.2.2.1, hD⟩, ?_⟩
  refine ⟨Nat.le_trans hS.1 hsz, fun q h1 h2 => ?_⟩
  rw [hkp q (Nat.lt_of_lt_of_le h1 hS.1)]
  exact hS.2.1 q h1 h2
theorem xw_callXVi (C : xw_C p s m args c cc nL own Ts D cl tys A H0) {S : Type} {y : MethodName} {ws1 : List Cond} {rm : Room} {b : Nat} {As : List Value} {K : State → Prop} {mc ms : Nat} {F : S → va_W} {post : Int32 → S → Prop} {pe : String → S → Prop} {Cn : String} {index maxL n : Nat} {bytes : ByteArray} {ret : Option FieldType} {q : vw_C} {fs : List Value}
    (hM : xw_Xi l y ws1 rm D cl tys (.ref b :: As) ws K mc ms F post pe) (cw : CallW R s args own Cn index y bytes maxL ret ws1 rm mc ms n) (q0 : Nat) {ci : Nat} (he : ws[q0]? = some (b, .inr (ci, fs))) (hc : cl[ci]? = some q) (hq : q.1 = Cn)
    (hKb : ∀ (U : State) (g : JFrame) (mk : MethodId) (a : Array Value), K U → K (U.calling g mk a)) (hKc : ∀ (H : Heap) (locs : List Loc) (U : State), va_D A ws → va_S A H0 H locs → U.heap = H → s.WarmedH U.vm → K U)
    (hn : As.length = n) (hst : st = As.reverse ++ .ref b :: rest) (hW8 : (rest.map fun v => v.category).sum ≤ 8) (hdg : decode cc pc = .ok (.invokevirtual index, 3)) (hf : cells + mc ≤ R.cells ∧ slots + ms ≤ R.slots) (hp : pc + 3 = pc')
    (kx : ∀ (E : String) (u : S), pe E u → XX p l e R s m args below meth c D cl A H0 nL (F u) (cells + mc) (slots + ms) Q pc lv E)
    (kk : ∀ (r : Int32) (u : S), post r u → XW p l e R s m args below meth c D cl A H0 nL (F u) (cells + mc) (slots + ms) Q pc' lv (.int r :: rest)) : XW p l e R s m args below meth c D cl A H0 nL ws cells slots Q pc lv st := by
  subst hp; subst hq
  intro H locs ls hP hD hS hl
  have hFc := xw_free hD hS C.2.2.2.2.2.2
  refine vx_calli (vx_runV (rest := rest) ⟨C.1, C.2.1, C.2.2.1, C.2.2.2.1, C.2.2.2.2.1⟩ (hM H.size) cw ⟨xw_blind hKb, va_recv C.2.2.2.2.2.1 hP hc he, fun U hU hW => ⟨rfl, by rw [hU], by rw [hU]; exact hP, va_K.moved hW.alike C.2.2.2.2.2.1, hD.weaken (fun _ _ _ _ => trivial), hKc H locs U hD hS hU hW⟩⟩ rfl hn hl.1 hst (lv_room hW8) hdg hf) hS (fun q _ h => hFc q h) hFc (fun q _ h => hFc q h) (fun E ce q9 u t H1 locs1 ht hvm _ hB hz1 hk1 hS1 h3 h4 h5 => ?_) (fun r u t H1 locs1 ht hvm hpost hB hz1 hk1 hS1 => ?_)
  · obtain ⟨hpe, hP1, hK1, hD1⟩ := hB
    rw [ht] at hP1
    exact kx E u hpe H1 locs1 ls rest q9 ce hP1 (hD1.weaken (fun k q _ h => hFc _ h)) hS1 hl h3 h4 h5
  · obtain ⟨hP1, hK1, hD1⟩ := hB
    rw [ht] at hP1
    exact kk r u hpost H1 locs1 ls hP1 (hD1.weaken (fun k q _ h => hFc _ h)) hS1 hl
theorem xw_callXVv (C : xw_C p s m args c cc nL own Ts D cl tys A H0) {S : Type} {y : MethodName} {ws1 : List Cond} {rm : Room} {b : Nat} {As : List Value} {K : State → Prop} {mc ms : Nat} {F : S → va_W} {post : S → Prop} {pe : String → S → Prop} {Cn : String} {index maxL n : Nat} {bytes : ByteArray} {ret : Option FieldType} {q : vw_C} {fs : List Value}
    (hM : xw_Xv l y ws1 rm D cl tys (.ref b :: As) ws K mc ms F post pe) (cw : CallW R s args own Cn index y bytes maxL ret ws1 rm mc ms n) (q0 : Nat) {ci : Nat} (he : ws[q0]? = some (b, .inr (ci, fs))) (hc : cl[ci]? = some q) (hq : q.1 = Cn)
    (hKb : ∀ (U : State) (g : JFrame) (mk : MethodId) (a : Array Value), K U → K (U.calling g mk a)) (hKc : ∀ (H : Heap) (locs : List Loc) (U : State), va_D A ws → va_S A H0 H locs → U.heap = H → s.WarmedH U.vm → K U)
    (hn : As.length = n) (hst : st = As.reverse ++ .ref b :: rest) (hW8 : (rest.map fun v => v.category).sum ≤ 8) (hdg : decode cc pc = .ok (.invokevirtual index, 3)) (hf : cells + mc ≤ R.cells ∧ slots + ms ≤ R.slots) (hp : pc + 3 = pc')
    (kx : ∀ (E : String) (u : S), pe E u → XX p l e R s m args below meth c D cl A H0 nL (F u) (cells + mc) (slots + ms) Q pc lv E)
    (kk : ∀ (u : S), post u → XW p l e R s m args below meth c D cl A H0 nL (F u) (cells + mc) (slots + ms) Q pc' lv rest) : XW p l e R s m args below meth c D cl A H0 nL ws cells slots Q pc lv st := by
  subst hp; subst hq
  intro H locs ls hP hD hS hl
  have hFc := xw_free hD hS C.2.2.2.2.2.2
  refine vx_callv (vx_runV (rest := rest) ⟨C.1, C.2.1, C.2.2.1, C.2.2.2.1, C.2.2.2.2.1⟩ (hM H.size) cw ⟨xw_blind hKb, va_recv C.2.2.2.2.2.1 hP hc he, fun U hU hW => ⟨rfl, by rw [hU], by rw [hU]; exact hP, va_K.moved hW.alike C.2.2.2.2.2.1, hD.weaken (fun _ _ _ _ => trivial), hKc H locs U hD hS hU hW⟩⟩ rfl hn hl.1 hst (lv_room hW8) hdg hf) hS (fun q _ h => hFc q h) hFc (fun q _ h => hFc q h) (fun E ce q9 u t H1 locs1 ht hvm _ hB hz1 hk1 hS1 h3 h4 h5 => ?_) (fun u t H1 locs1 ht hvm hpost hB hz1 hk1 hS1 => ?_)
  · obtain ⟨hpe, hP1, hK1, hD1⟩ := hB
    rw [ht] at hP1
    exact kx E u hpe H1 locs1 ls rest q9 ce hP1 (hD1.weaken (fun k q _ h => hFc _ h)) hS1 hl h3 h4 h5
  · obtain ⟨hP1, hK1, hD1⟩ := hB
    rw [ht] at hP1
    exact kk u hpost H1 locs1 ls hP1 (hD1.weaken (fun k q _ h => hFc _ h)) hS1 hl
theorem xw_callXSv (C : xw_C p s m args c cc nL own Ts D cl tys A H0) {S : Type} {y : MethodName} {ws1 : List Cond} {rm : Room} {As : List Value} {K : State → Prop} {mc ms : Nat} {F : S → va_W} {post : S → Prop} {pe : String → S → Prop} {index maxL n : Nat} {bytes : ByteArray} {ret : Option FieldType}
    (hM : xw_Xv l y ws1 rm D cl tys As ws K mc ms F post pe) (cw : CallB R s args own index y bytes maxL ret ws1 rm mc ms n ∧ (Cond.static y).before args s = true)
    (hKb : ∀ (U : State) (g : JFrame) (mk : MethodId) (a : Array Value), K U → K (U.calling g mk a)) (hKc : ∀ (H : Heap) (locs : List Loc) (U : State), va_D A ws → va_S A H0 H locs → U.heap = H → s.WarmedH U.vm → K U)
    (hn : As.length = n) (hst : st = As.reverse ++ rest) (hW8 : (rest.map fun v => v.category).sum ≤ 8) (hdg : decode cc pc = .ok (.invokestatic index, 3)) (hf : cells + mc ≤ R.cells ∧ slots + ms ≤ R.slots) (hp : pc + 3 = pc')
    (kx : ∀ (E : String) (u : S), pe E u → XX p l e R s m args below meth c D cl A H0 nL (F u) (cells + mc) (slots + ms) Q pc lv E)
    (kk : ∀ (u : S), post u → XW p l e R s m args below meth c D cl A H0 nL (F u) (cells + mc) (slots + ms) Q pc' lv rest) : XW p l e R s m args below meth c D cl A H0 nL ws cells slots Q pc lv st := by
  subst hp
  intro H locs ls hP hD hS hl
  have hFc := xw_free hD hS C.2.2.2.2.2.2
  refine vx_callv (vx_runS (rest := rest) ⟨C.1, C.2.1, C.2.2.1, C.2.2.2.1, C.2.2.2.2.1⟩ (hM H.size) cw ⟨xw_blind hKb, fun U hU hW => ⟨rfl, by rw [hU], by rw [hU]; exact hP, va_K.moved hW.alike C.2.2.2.2.2.1, hD.weaken (fun _ _ _ _ => trivial), hKc H locs U hD hS hU hW⟩⟩ rfl hn hl.1 hst (lv_room hW8) hdg hf) hS (fun q _ h => hFc q h) hFc (fun q _ h => hFc q h) (fun E ce q9 u t H1 locs1 ht hvm _ hB hz1 hk1 hS1 h3 h4 h5 => ?_) (fun u t H1 locs1 ht hvm hpost hB hz1 hk1 hS1 => ?_)
  · obtain ⟨hpe, hP1, hK1, hD1⟩ := hB
    rw [ht] at hP1
    exact kx E u hpe H1 locs1 ls rest q9 ce hP1 (hD1.weaken (fun k q _ h => hFc _ h)) hS1 hl h3 h4 h5
  · obtain ⟨hP1, hK1, hD1⟩ := hB
    rw [ht] at hP1
    exact kk u hpost H1 locs1 ls hP1 (hD1.weaken (fun k q _ h => hFc _ h)) hS1 hl
end XWALK
